import java.util.Arrays;

/** A desk for connections by light over pairs of paths without a common fibre. */
public final class FibrePairs {
    public static final int NONE = -1;
    public static final int FITS = -2;

    private static final int LEAST_SITES = 2;
    private static final int MOST_SITES = 7;
    private static final int MOST_FIBRES = 14;
    private static final int MOST_LENGTH = 100;
    private static final int MOST_CONNECTIONS = 12;
    private static final int MOST_HOLD = 1000;
    private static final int WAVELENGTHS = 4;

    private static final int ON_WORKING = 0;
    private static final int ON_SPARE = 1;
    private static final int ON_NONE = 2;

    private final Net net;
    private final Connection[] connections;
    private int cutFibres;
    private int lockedFibres;
    private int holdTime;

    public FibrePairs() {
        net = new Net();
        connections = new Connection[MOST_CONNECTIONS];
        for (int id = 0; id < MOST_CONNECTIONS; id++) {
            connections[id] = new Connection();
        }
    }

    public void clear(int sites) throws IllegalArgumentException {
        if (sites < LEAST_SITES || sites > MOST_SITES) {
            throw new IllegalArgumentException();
        }
        net.startWith(sites);
        for (int id = 0; id < MOST_CONNECTIONS; id++) {
            connections[id].there = false;
        }
        cutFibres = 0;
        lockedFibres = 0;
        holdTime = 0;
    }

    public int fibre(int a, int b, int length)
            throws IndexOutOfBoundsException, IllegalArgumentException, IllegalStateException {
        requireTwoSites(a, b);
        if (length < 1 || length > MOST_LENGTH) {
            throw new IllegalArgumentException();
        }
        if (net.fibres == MOST_FIBRES) {
            throw new IllegalStateException();
        }
        return net.add(a, b, length);
    }

    public int request(int a, int b, boolean protect)
            throws IndexOutOfBoundsException, IllegalArgumentException, IllegalStateException {
        requireTwoSites(a, b);
        int id = leastNotThere();
        if (id == NONE) {
            throw new IllegalStateException();
        }
        Connection wanted = connections[id];
        wanted.ask(a, b, protect);
        wanted.there = lay(wanted, 0);
        return wanted.there ? id : NONE;
    }

    public void release(int id) throws IndexOutOfBoundsException {
        requireConnection(id);
        connections[id].there = false;
    }

    public void lock(int fibre, boolean on) throws IndexOutOfBoundsException, IllegalStateException {
        requireFibre(fibre);
        if (holds(lockedFibres, fibre) == on) {
            throw new IllegalStateException();
        }
        lockedFibres ^= 1 << fibre;
    }

    public void cut(int fibre) throws IndexOutOfBoundsException, IllegalStateException {
        requireFibre(fibre);
        if (holds(cutFibres, fibre)) {
            throw new IllegalStateException();
        }
        cutFibres ^= 1 << fibre;
        changeOverAll();
    }

    public void mend(int fibre) throws IndexOutOfBoundsException, IllegalStateException {
        requireFibre(fibre);
        if (!holds(cutFibres, fibre)) {
            throw new IllegalStateException();
        }
        cutFibres ^= 1 << fibre;
        changeOverAll();
    }

    public void hold(int n) throws IllegalArgumentException {
        if (n < 0 || n > MOST_HOLD) {
            throw new IllegalArgumentException();
        }
        holdTime = n;
        changeOverAll();
    }

    public void clock() {
        for (int id = 0; id < MOST_CONNECTIONS; id++) {
            if (connections[id].there) {
                connections[id].tick(cutFibres);
            }
        }
        changeOverAll();
    }

    public int path(int id, boolean spare, int i) throws IndexOutOfBoundsException {
        requireConnection(id);
        Connection asked = connections[id];
        return net.step(spare ? asked.spare : asked.working, asked.a, i);
    }

    public int about(int id, int what) throws IndexOutOfBoundsException, IllegalArgumentException {
        requireConnection(id);
        Connection asked = connections[id];
        switch (what) {
            case 0: return asked.wavelength;
            case 1: return asked.a;
            case 2: return asked.b;
            case 3: return net.lengthOf(asked.working);
            case 4: return asked.guarded ? net.lengthOf(asked.spare) : NONE;
            case 5: return asked.on;
            case 6: return asked.waited;
            default: throw new IllegalArgumentException();
        }
    }

    public int user(int fibre, int wavelength) throws IndexOutOfBoundsException {
        requireFibre(fibre);
        requireWavelength(wavelength);
        for (int id = 0; id < MOST_CONNECTIONS; id++) {
            if (holds(connections[id].usedOn(wavelength), fibre)) {
                return id;
            }
        }
        return NONE;
    }

    public int move(int id) throws IndexOutOfBoundsException {
        requireConnection(id);
        Connection moved = connections[id];
        return lay(moved, moved.wavelength + 1) ? moved.wavelength : NONE;
    }

    public int fits(int a, int b) throws IndexOutOfBoundsException, IllegalArgumentException {
        requireTwoSites(a, b);
        int fitting = 0;
        for (int wavelength = 0; wavelength < WAVELENGTHS; wavelength++) {
            if (net.bestPair(freeOn(wavelength), a, b) != 0) {
                fitting++;
            }
        }
        return fitting;
    }

    public int bridge(int a, int b, int wavelength)
            throws IndexOutOfBoundsException, IllegalArgumentException {
        requireWavelength(wavelength);
        requireTwoSites(a, b);
        int free = freeOn(wavelength);
        int path = net.bestPath(free, a, b);
        if (path == 0) {
            return NONE;
        }
        // A fibre outside this path can't be needed: the path is there without it.
        for (int fibre = 0; fibre < net.fibres; fibre++) {
            if (holds(path, fibre) && net.bestPath(free ^ (1 << fibre), a, b) == 0) {
                return fibre;
            }
        }
        // By Menger's theorem there is a pair exactly when no single fibre is needed.
        return FITS;
    }

    public int exposed() {
        int found = 0;
        for (int id = 0; id < MOST_CONNECTIONS; id++) {
            Connection one = connections[id];
            if (one.there && one.guarded && one.on == ON_NONE) {
                found++;
            }
        }
        return found;
    }

    public int count(int what) throws IllegalArgumentException {
        switch (what) {
            case 0: return net.sites;
            case 1: return net.fibres;
            case 2: return connectionsThere();
            case 3: return Integer.bitCount(cutFibres);
            case 4: return Integer.bitCount(lockedFibres);
            default: throw new IllegalArgumentException();
        }
    }

    private void requireTwoSites(int a, int b) {
        if (a < 0 || a >= net.sites || b < 0 || b >= net.sites) {
            throw new IndexOutOfBoundsException();
        }
        if (a == b) {
            throw new IllegalArgumentException();
        }
    }

    private void requireFibre(int fibre) {
        if (fibre < 0 || fibre >= net.fibres) {
            throw new IndexOutOfBoundsException();
        }
    }

    private void requireConnection(int id) {
        if (id < 0 || id >= MOST_CONNECTIONS || !connections[id].there) {
            throw new IndexOutOfBoundsException();
        }
    }

    private static void requireWavelength(int wavelength) {
        if (wavelength < 0 || wavelength >= WAVELENGTHS) {
            throw new IndexOutOfBoundsException();
        }
    }

    private static boolean holds(int set, int fibre) {
        return (set & (1 << fibre)) != 0;
    }

    private int leastNotThere() {
        for (int id = 0; id < MOST_CONNECTIONS; id++) {
            if (!connections[id].there) {
                return id;
            }
        }
        return NONE;
    }

    private int connectionsThere() {
        int found = 0;
        for (int id = 0; id < MOST_CONNECTIONS; id++) {
            if (connections[id].there) {
                found++;
            }
        }
        return found;
    }

    private int freeOn(int wavelength) {
        int barred = cutFibres | lockedFibres;
        for (int id = 0; id < MOST_CONNECTIONS; id++) {
            barred |= connections[id].usedOn(wavelength);
        }
        return net.everyFibre() & ~barred;
    }

    private boolean lay(Connection wanted, int leastWavelength) {
        for (int wavelength = leastWavelength; wavelength < WAVELENGTHS; wavelength++) {
            int free = freeOn(wavelength);
            int taken = wanted.guarded
                    ? net.bestPair(free, wanted.a, wanted.b)
                    : net.bestPath(free, wanted.a, wanted.b);
            if (taken != 0) {
                // Any path among the best pair's fibres leaves a path (or a shorter pair would be
                // among them), so the best path there is the shorter one of the right parting.
                wanted.settle(wavelength, net.bestPath(taken, wanted.a, wanted.b), taken);
                return true;
            }
        }
        return false;
    }

    private void changeOverAll() {
        for (int id = 0; id < MOST_CONNECTIONS; id++) {
            if (connections[id].there) {
                connections[id].changeOver(cutFibres, holdTime);
            }
        }
    }

    /** A place for a connection; sets of fibres are numbers with bit f for fibre f. */
    private static final class Connection {
        private boolean there;
        private boolean guarded;
        private int a;
        private int b;
        private int wavelength;
        private int working;
        private int spare;
        private int on;
        private int waited;

        private void ask(int siteA, int siteB, boolean protect) {
            a = siteA;
            b = siteB;
            guarded = protect;
        }

        private void settle(int newWavelength, int newWorking, int taken) {
            wavelength = newWavelength;
            working = newWorking;
            spare = taken & ~newWorking;
            on = ON_WORKING;
            waited = 0;
        }

        private int usedOn(int asked) {
            return there && wavelength == asked ? working | spare : 0;
        }

        private boolean workingIsWhole(int cutFibres) {
            return (working & cutFibres) == 0;
        }

        private boolean spareIsWhole(int cutFibres) {
            return guarded && (spare & cutFibres) == 0;
        }

        private void tick(int cutFibres) {
            if (workingIsWhole(cutFibres) && on != ON_WORKING) {
                waited++;
            }
        }

        private void changeOver(int cutFibres, int holdTime) {
            boolean canSpare = spareIsWhole(cutFibres);
            if (!workingIsWhole(cutFibres)) {
                waited = 0;
                on = canSpare ? ON_SPARE : ON_NONE;
            } else if (on != ON_WORKING) {
                on = waited >= holdTime || !canSpare ? ON_WORKING : ON_SPARE;
            }
        }
    }

    /** The sites and fibres, and the search for the best path and pair among some of them. */
    private static final class Net {
        // Far above what any way costs.
        private static final int UNREACHED = 0x7fffffff;
        private static final int BARRED = 0x7fffffff;

        private int sites;
        private int fibres;
        private final int[] from;
        private final int[] to;
        private final int[] length;
        // What it costs to go through a fibre from its first end, and from its second.
        private final int[] onward;
        private final int[] backward;
        // By site: what the best way to it costs, and that way's fibres.
        private final int[] cost;
        private final int[] way;

        private Net() {
            sites = LEAST_SITES;
            from = new int[MOST_FIBRES];
            to = new int[MOST_FIBRES];
            length = new int[MOST_FIBRES];
            onward = new int[MOST_FIBRES];
            backward = new int[MOST_FIBRES];
            cost = new int[MOST_SITES];
            way = new int[MOST_SITES];
        }

        private void startWith(int newSites) {
            sites = newSites;
            fibres = 0;
        }

        private int add(int a, int b, int newLength) {
            int fibre = fibres;
            from[fibre] = a;
            to[fibre] = b;
            length[fibre] = newLength;
            fibres++;
            return fibre;
        }

        private int everyFibre() {
            return (1 << fibres) - 1;
        }

        private int lengthOf(int set) {
            int sum = 0;
            for (int fibre = 0; fibre < fibres; fibre++) {
                if (holds(set, fibre)) {
                    sum += length[fibre];
                }
            }
            return sum;
        }

        private int step(int path, int start, int i) {
            if (i < 0 || i >= Integer.bitCount(path)) {
                return NONE;
            }
            int left = path;
            int site = start;
            int fibre = touching(left, site);
            for (int steps = 0; steps < i && fibre != NONE; steps++) {
                left ^= 1 << fibre;
                site = otherEnd(fibre, site);
                fibre = touching(left, site);
            }
            return fibre;
        }

        private int touching(int set, int site) {
            for (int fibre = 0; fibre < fibres; fibre++) {
                if (holds(set, fibre) && (from[fibre] == site || to[fibre] == site)) {
                    return fibre;
                }
            }
            return NONE;
        }

        private int otherEnd(int fibre, int site) {
            return from[fibre] == site ? to[fibre] : from[fibre];
        }

        private int bestPath(int free, int a, int b) {
            openBothWays(free);
            return cheapestWay(a, b);
        }

        /**
         * The fibres of the best pair: the best path, corrected by the cheapest second way, which
         * may undo fibres of the first one by going back through them.
         */
        private int bestPair(int free, int a, int b) {
            int first = bestPath(free, a, b);
            if (first == 0) {
                return 0;
            }
            openBackOnly(first, a);
            int second = cheapestWay(a, b);
            return second == 0 ? 0 : first ^ second;
        }

        /**
         * The weight of a fibre. The sum over a set puts shorter sets first, and of equally long
         * ones that whose list comes first: its least number that the other set lacks outweighs
         * all later ones. So no two sets weigh the same.
         */
        private int weight(int fibre) {
            return (length[fibre] << MOST_FIBRES) - (1 << (MOST_FIBRES - 1 - fibre));
        }

        private void openBothWays(int free) {
            for (int fibre = 0; fibre < fibres; fibre++) {
                int price = holds(free, fibre) ? weight(fibre) : BARRED;
                onward[fibre] = price;
                backward[fibre] = price;
            }
        }

        private void openBackOnly(int path, int start) {
            int left = path;
            int site = start;
            int fibre = touching(left, site);
            for (int steps = 0; steps < MOST_SITES && fibre != NONE; steps++) {
                boolean leavesFirstEnd = from[fibre] == site;
                onward[fibre] = leavesFirstEnd ? BARRED : -weight(fibre);
                backward[fibre] = leavesFirstEnd ? -weight(fibre) : BARRED;
                left ^= 1 << fibre;
                site = otherEnd(fibre, site);
                fibre = touching(left, site);
            }
        }

        /** The fibres of the cheapest way from a to b (Bellman and Ford), 0 when there is none. */
        private int cheapestWay(int a, int b) {
            Arrays.fill(cost, UNREACHED);
            Arrays.fill(way, 0);
            cost[a] = 0;
            boolean better = true;
            for (int round = 1; round < sites && better; round++) {
                better = false;
                for (int fibre = 0; fibre < fibres; fibre++) {
                    if (extend(from[fibre], fibre, to[fibre], onward[fibre])) {
                        better = true;
                    }
                    if (extend(to[fibre], fibre, from[fibre], backward[fibre])) {
                        better = true;
                    }
                }
            }
            return way[b];
        }

        private boolean extend(int near, int fibre, int far, int price) {
            if (price == BARRED || cost[near] == UNREACHED || cost[near] + price >= cost[far]) {
                return false;
            }
            cost[far] = cost[near] + price;
            way[far] = way[near] | (1 << fibre);
            return true;
        }
    }
}
