import java.util.ArrayList;
import java.util.Collections;
import java.util.List;
import java.util.Random;
import java.util.function.LongSupplier;

/**
 * Runs of calls, drawn with fixed seeds, against a model that follows the document's words: it
 * writes down all paths and all pairs and picks among them by their lists.
 */
public final class ModelTest {
    private static final int RUNS = 2500;
    // After these a run asks for all that its desk answers.
    private static final int CALLS = 200;
    // Some runs go on with ordinary calls for as long as an object is used.
    private static final int MOST_CALLS = 512;

    public static void main(String[] args) {
        for (int run = 0; run < RUNS; run += 2) {
            playInTurns(new Run(run), new Run(run + 1));
        }
        Checks.end();
    }

    /** Call by call on two desks, so that neither may keep anything of the other one. */
    private static void playInTurns(Run first, Run second) {
        first.begin();
        second.begin();
        while (!first.done() || !second.done()) {
            first.goOn();
            second.goOn();
        }
        first.close();
        second.close();
    }

    private static final class Fibre {
        final int number;
        final int a;
        final int b;
        final int length;
        boolean cut;
        boolean locked;

        Fibre(int number, int a, int b, int length) {
            this.number = number;
            this.a = a;
            this.b = b;
            this.length = length;
        }
    }

    private static final class Connection {
        int a;
        int b;
        boolean guarded;
        int wavelength;
        List<Fibre> working;
        List<Fibre> spare;
        int on;
        int count;
    }

    private static final class Model {
        int sites = 2;
        List<Fibre> fibres = new ArrayList<>();
        Connection[] connections = new Connection[12];
        int hold = 0;

        private void needSites(int a, int b) {
            if (Math.min(a, b) < 0 || Math.max(a, b) >= sites) {
                throw new IndexOutOfBoundsException();
            }
            if (a == b) {
                throw new IllegalArgumentException();
            }
        }

        private Fibre needFibre(int f) {
            if (f < 0 || f >= fibres.size()) {
                throw new IndexOutOfBoundsException();
            }
            return fibres.get(f);
        }

        private Connection needConnection(int id) {
            if (id < 0 || id > 11 || connections[id] == null) {
                throw new IndexOutOfBoundsException();
            }
            return connections[id];
        }

        void clear(int newSites) {
            if (newSites < 2 || newSites > 7) {
                throw new IllegalArgumentException();
            }
            sites = newSites;
            fibres = new ArrayList<>();
            connections = new Connection[12];
            hold = 0;
        }

        int fibre(int a, int b, int length) {
            needSites(a, b);
            if (length < 1 || length > 100) {
                throw new IllegalArgumentException();
            }
            if (fibres.size() == 14) {
                throw new IllegalStateException();
            }
            fibres.add(new Fibre(fibres.size(), a, b, length));
            return fibres.size() - 1;
        }

        int request(int a, int b, boolean protect) {
            needSites(a, b);
            int id = 0;
            while (id < 12 && connections[id] != null) {
                id++;
            }
            if (id == 12) {
                throw new IllegalStateException();
            }
            Connection c = new Connection();
            c.a = a;
            c.b = b;
            c.guarded = protect;
            if (lay(c, 0) < 0) {
                return -1;
            }
            connections[id] = c;
            return id;
        }

        private int lay(Connection c, int least) {
            for (int w = least; w < 4; w++) {
                List<List<Fibre>> paths = pathsOn(w, c.a, c.b);
                if (c.guarded) {
                    List<List<Fibre>> pair = thePair(paths);
                    if (pair == null) {
                        continue;
                    }
                    c.working = pair.get(0);
                    c.spare = pair.get(1);
                } else {
                    if (paths.isEmpty()) {
                        continue;
                    }
                    c.working = Collections.min(paths, Model::compare);
                    c.spare = new ArrayList<>();
                }
                c.wavelength = w;
                c.on = 0;
                c.count = 0;
                return w;
            }
            return -1;
        }

        void release(int id) {
            needConnection(id);
            connections[id] = null;
        }

        void lock(int f, boolean on) {
            Fibre fibre = needFibre(f);
            if (fibre.locked == on) {
                throw new IllegalStateException();
            }
            fibre.locked = on;
        }

        void cut(int f, boolean on) {
            Fibre fibre = needFibre(f);
            if (fibre.cut == on) {
                throw new IllegalStateException();
            }
            fibre.cut = on;
            after();
        }

        void hold(int n) {
            if (n < 0 || n > 1000) {
                throw new IllegalArgumentException();
            }
            hold = n;
            after();
        }

        void clock() {
            for (Connection c : connections) {
                if (c != null && whole(c.working) && c.on != 0) {
                    c.count++;
                }
            }
            after();
        }

        private void after() {
            for (Connection c : connections) {
                if (c == null) {
                    continue;
                }
                boolean spareWhole = c.guarded && whole(c.spare);
                if (!whole(c.working)) {
                    c.count = 0;
                    c.on = spareWhole ? 1 : 2;
                } else if (c.on != 0) {
                    c.on = c.count >= hold || !spareWhole ? 0 : 1;
                }
            }
        }

        private static boolean whole(List<Fibre> path) {
            for (Fibre f : path) {
                if (f.cut) {
                    return false;
                }
            }
            return true;
        }

        int path(int id, boolean spare, int i) {
            Connection c = needConnection(id);
            List<Fibre> path = spare ? c.spare : c.working;
            return i < 0 || i >= path.size() ? -1 : path.get(i).number;
        }

        int about(int id, int what) {
            Connection c = needConnection(id);
            if (what < 0 || what > 6) {
                throw new IllegalArgumentException();
            }
            int spareLength = c.guarded ? length(c.spare) : -1;
            return new int[] {c.wavelength, c.a, c.b, length(c.working), spareLength, c.on, c.count}[what];
        }

        int user(int f, int w) {
            Fibre fibre = needFibre(f);
            if (w < 0 || w > 3) {
                throw new IndexOutOfBoundsException();
            }
            return userOf(fibre, w);
        }

        private int userOf(Fibre fibre, int w) {
            for (int id = 0; id < 12; id++) {
                Connection c = connections[id];
                if (c != null && c.wavelength == w && (c.working.contains(fibre) || c.spare.contains(fibre))) {
                    return id;
                }
            }
            return -1;
        }

        int move(int id) {
            Connection c = needConnection(id);
            return lay(c, c.wavelength + 1);
        }

        int fits(int a, int b) {
            needSites(a, b);
            int n = 0;
            for (int w = 0; w < 4; w++) {
                if (thePair(pathsOn(w, a, b)) != null) {
                    n++;
                }
            }
            return n;
        }

        int bridge(int a, int b, int w) {
            if (w < 0 || w > 3) {
                throw new IndexOutOfBoundsException();
            }
            needSites(a, b);
            List<List<Fibre>> paths = pathsOn(w, a, b);
            if (paths.isEmpty()) {
                return -1;
            }
            if (thePair(paths) != null) {
                return -2;
            }
            for (Fibre f : fibres) {
                boolean inAll = true;
                for (List<Fibre> path : paths) {
                    inAll &= path.contains(f);
                }
                if (inAll) {
                    return f.number;
                }
            }
            throw new AssertionError("no pair, and no fibre that is in all paths");
        }

        int exposed() {
            int n = 0;
            for (Connection c : connections) {
                if (c != null && c.guarded && c.on == 2) {
                    n++;
                }
            }
            return n;
        }

        int count(int what) {
            int n = 0;
            switch (what) {
                case 0:
                    return sites;
                case 1:
                    return fibres.size();
                case 2:
                    for (Connection c : connections) {
                        n += c != null ? 1 : 0;
                    }
                    return n;
                case 3:
                    for (Fibre f : fibres) {
                        n += f.cut ? 1 : 0;
                    }
                    return n;
                case 4:
                    for (Fibre f : fibres) {
                        n += f.locked ? 1 : 0;
                    }
                    return n;
                default:
                    throw new IllegalArgumentException();
            }
        }

        private List<List<Fibre>> pathsOn(int w, int a, int b) {
            List<Fibre> free = new ArrayList<>();
            for (Fibre f : fibres) {
                if (!f.cut && !f.locked && userOf(f, w) < 0) {
                    free.add(f);
                }
            }
            List<List<Fibre>> found = new ArrayList<>();
            boolean[] seen = new boolean[7];
            collect(free, a, b, seen, new ArrayList<>(), found);
            return found;
        }

        private static void collect(List<Fibre> free, int at, int b, boolean[] seen, List<Fibre> so, List<List<Fibre>> found) {
            if (at == b) {
                found.add(new ArrayList<>(so));
                return;
            }
            seen[at] = true;
            for (Fibre f : free) {
                if (f.a != at && f.b != at) {
                    continue;
                }
                int next = f.a == at ? f.b : f.a;
                if (!seen[next]) {
                    so.add(f);
                    collect(free, next, b, seen, so, found);
                    so.remove(so.size() - 1);
                }
            }
            seen[at] = false;
        }

        private static List<List<Fibre>> thePair(List<List<Fibre>> paths) {
            List<Fibre> bestBoth = null;
            List<List<Fibre>> best = null;
            for (List<Fibre> p : paths) {
                for (List<Fibre> q : paths) {
                    // Each pair once, its shorter path (of equal ones, the one listed first) in front.
                    if (compare(p, q) >= 0 || !Collections.disjoint(p, q)) {
                        continue;
                    }
                    List<Fibre> both = new ArrayList<>(p);
                    both.addAll(q);
                    int order = best == null ? -1 : compare(both, bestBoth);
                    if (order < 0 || order == 0 && compare(p, best.get(0)) < 0) {
                        bestBoth = both;
                        best = List.of(p, q);
                    }
                }
            }
            return best;
        }

        private static int length(List<Fibre> path) {
            int sum = 0;
            for (Fibre f : path) {
                sum += f.length;
            }
            return sum;
        }

        private static int compare(List<Fibre> p, List<Fibre> q) {
            if (length(p) != length(q)) {
                return length(p) - length(q);
            }
            List<Integer> left = numbers(p);
            List<Integer> right = numbers(q);
            for (int i = 0; i < left.size() && i < right.size(); i++) {
                if (!left.get(i).equals(right.get(i))) {
                    return left.get(i) - right.get(i);
                }
            }
            return left.size() - right.size();
        }

        private static List<Integer> numbers(List<Fibre> path) {
            List<Integer> list = new ArrayList<>();
            for (Fibre f : path) {
                list.add(f.number);
            }
            Collections.sort(list);
            return list;
        }
    }

    private static final class Run {
        final int run;
        final Random draw;
        final FibrePairs real = new FibrePairs();
        final Model model = new Model();
        final List<String> calls = new ArrayList<>();
        final int maxLength;
        final boolean longest;

        Run(int run) {
            this.run = run;
            draw = new Random(run);
            maxLength = new int[] {1, 2, 3, 10, 100}[run % 5];
            longest = run % 8 == 7;
        }

        void begin() {
            int sites = 2 + draw.nextInt(6);
            both("clear " + sites, () -> clear(real, sites), () -> clear(model, sites));
            int fibres = draw.nextInt(4) == 0 ? draw.nextInt(15) : 10 + draw.nextInt(5);
            for (int i = 0; i < fibres; i++) {
                addFibre();
            }
        }

        boolean done() {
            return calls.size() >= (longest ? MOST_CALLS : CALLS);
        }

        void goOn() {
            if (!done()) {
                step();
            }
        }

        void close() {
            if (!longest) {
                compareAll();
            }
        }

        private long clear(FibrePairs x, int sites) {
            x.clear(sites);
            return 0;
        }

        private long clear(Model x, int sites) {
            x.clear(sites);
            return 0;
        }

        /** Mostly one that is there; now and then one beyond either end. */
        private int upTo(int bound) {
            int how = draw.nextInt(60);
            if (how == 0) {
                return -1 - draw.nextInt(3) * draw.nextInt(1000);
            }
            if (how == 1) {
                return bound + draw.nextInt(3) * draw.nextInt(1000);
            }
            return draw.nextInt(Math.max(1, bound));
        }

        private void addFibre() {
            int a = upTo(model.sites);
            int b = draw.nextInt(30) == 0 ? a : upTo(model.sites);
            int length = draw.nextInt(40) == 0 ? draw.nextInt(3) * 101 : 1 + draw.nextInt(maxLength);
            both("fibre " + a + " " + b + " " + length, () -> real.fibre(a, b, length), () -> model.fibre(a, b, length));
        }

        private void step() {
            int a = upTo(model.sites);
            int b = draw.nextInt(20) != 0 && model.sites > 1 && a >= 0 && a < model.sites
                    ? (a + 1 + draw.nextInt(model.sites - 1)) % model.sites : upTo(model.sites);
            int f = upTo(model.fibres.size());
            int w = upTo(4);
            int id = upTo(draw.nextBoolean() ? 12 : 4);
            boolean flag = draw.nextInt(3) != 0;
            int i = draw.nextInt(8) - 1;
            int what = upTo(7);
            int n = draw.nextInt(8) == 0 ? (draw.nextInt(3) - 1) * 1000 + draw.nextInt(3) - 1 : draw.nextInt(4);
            switch (draw.nextInt(24)) {
                case 0, 1, 2, 3, 4:
                    both("request " + a + " " + b + " " + flag, () -> real.request(a, b, flag), () -> model.request(a, b, flag));
                    break;
                case 5:
                    both("release " + id, () -> { real.release(id); return 0; }, () -> { model.release(id); return 0; });
                    break;
                case 6, 7:
                    both("lock " + f + " " + flag, () -> { real.lock(f, flag); return 0; }, () -> { model.lock(f, flag); return 0; });
                    both("lock " + f + " " + !flag, () -> { real.lock(f, !flag); return 0; }, () -> { model.lock(f, !flag); return 0; });
                    break;
                case 8, 9:
                    both("cut " + f, () -> { real.cut(f); return 0; }, () -> { model.cut(f, true); return 0; });
                    break;
                case 10, 11, 12:
                    both("mend " + f, () -> { real.mend(f); return 0; }, () -> { model.cut(f, false); return 0; });
                    break;
                case 13:
                    both("hold " + n, () -> { real.hold(n); return 0; }, () -> { model.hold(n); return 0; });
                    break;
                case 14:
                    both("clock", () -> { real.clock(); return 0; }, () -> { model.clock(); return 0; });
                    break;
                case 15:
                    both("path " + id + " " + flag + " " + i, () -> real.path(id, flag, i), () -> model.path(id, flag, i));
                    break;
                case 16, 17:
                    both("about " + id + " " + what, () -> real.about(id, what), () -> model.about(id, what));
                    break;
                case 18:
                    both("user " + f + " " + w, () -> real.user(f, w), () -> model.user(f, w));
                    break;
                case 19:
                    both("move " + id, () -> real.move(id), () -> model.move(id));
                    break;
                case 20:
                    both("fits " + a + " " + b, () -> real.fits(a, b), () -> model.fits(a, b));
                    break;
                case 21:
                    both("bridge " + a + " " + b + " " + w, () -> real.bridge(a, b, w), () -> model.bridge(a, b, w));
                    break;
                case 22:
                    both("exposed", () -> real.exposed(), () -> model.exposed());
                    break;
                default:
                    rareStep(what);
            }
        }

        private void rareStep(int what) {
            if (draw.nextInt(5) == 0) {
                int sites = draw.nextInt(10);
                if (sites < 2 || sites > 7 || draw.nextInt(3) == 0) {
                    both("clear " + sites, () -> clear(real, sites), () -> clear(model, sites));
                }
            }
            if (model.fibres.size() < 10) {
                for (int k = 0; k < 8; k++) {
                    addFibre();
                }
            }
            addFibre();
            both("count " + what, () -> real.count(what), () -> model.count(what));
        }

        private void compareAll() {
            for (int what = 0; what < 5; what++) {
                int k = what;
                both("count " + k, () -> real.count(k), () -> model.count(k));
            }
            both("exposed", () -> real.exposed(), () -> model.exposed());
            for (int id = 0; id < 12; id++) {
                int k = id;
                if (model.connections[id] == null) {
                    both("about " + k + " 0", () -> real.about(k, 0), () -> model.about(k, 0));
                    continue;
                }
                for (int what = 0; what < 7; what++) {
                    int m = what;
                    both("about " + k + " " + m, () -> real.about(k, m), () -> model.about(k, m));
                }
                for (int i = 0; i < 7; i++) {
                    int m = i;
                    both("path " + k + " false " + m, () -> real.path(k, false, m), () -> model.path(k, false, m));
                    both("path " + k + " true " + m, () -> real.path(k, true, m), () -> model.path(k, true, m));
                }
            }
        }

        private void both(String text, LongSupplier realCall, LongSupplier modelCall) {
            if (calls.size() == MOST_CALLS) {
                return;
            }
            calls.add(text);
            Checks.due("run " + run + ", call " + calls.size() + ": " + text,
                    Checks.answer(realCall), Checks.answer(modelCall));
        }
    }
}
