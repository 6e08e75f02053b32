import static java.lang.Integer.MAX_VALUE;
import static java.lang.Integer.MIN_VALUE;

import java.util.function.Consumer;
import java.util.function.Supplier;

/**
 * Each sentence of the document that begins with an exception's name: the first value that is not
 * allowed on both sides, and the last one that is; that a refused call changes nothing; and which
 * exception comes first where several fit.
 */
public final class RefusalTest {
    private static final Class<IndexOutOfBoundsException> OUT = IndexOutOfBoundsException.class;
    private static final Class<IllegalArgumentException> ARGUMENT = IllegalArgumentException.class;
    private static final Class<IllegalStateException> STATE = IllegalStateException.class;
    private static final int NONE = FibrePairs.NONE;

    private static String part = "";

    public static void main(String[] args) {
        theDesks();
        newObject();
        clear();
        fibreSites();
        fibreLength();
        fibreFourteen();
        fibreFirstNamed();
        requestSites();
        requestTwelve();
        requestFirstNamed();
        release();
        lockFibre();
        lockAlready();
        cutFibre();
        cutAlready();
        mendFibre();
        mendWhole();
        hold();
        path();
        aboutConnection();
        aboutWhat();
        user();
        move();
        fits();
        bridge();
        count();
        Checks.end();
    }

    private static void due(String what, long got, long want) {
        Checks.due(part + ": " + what, got, want);
    }

    /** The call throws that, and the desk answers ever after like one that was not asked. */
    private static void refused(Class<? extends RuntimeException> want, Supplier<FibrePairs> made,
            String what, Consumer<FibrePairs> call) {
        FibrePairs asked = made.get();
        Checks.refused(part + ": " + what, want, () -> call.accept(asked));
        Picture.same(part + ": " + what + " changed something", asked, made.get());
    }

    /** The call throws nothing. */
    private static void taken(Supplier<FibrePairs> made, String what, Consumer<FibrePairs> call) {
        FibrePairs asked = made.get();
        String answer = Checks.answer(() -> {
            call.accept(asked);
            return 0;
        });
        Checks.due(part + ": " + what, answer, "0");
    }

    /** The first values that are not 0 .. bound - 1, and some that a shift or a sum could bring in again. */
    private static int[] beyond(int bound) {
        return new int[] {-1, bound, -32, 32, 32 + bound - 1, 64, MIN_VALUE, MIN_VALUE + 1, MAX_VALUE};
    }

    /** Fourteen fibres, each one used by a connection, so that its length and place can be seen. */
    private static FibrePairs fourteen() {
        FibrePairs x = Desks.parallel(14);
        for (int id = 0; id < 7; id++) {
            due("request", x.request(0, 1, true), id);
        }
        return x;
    }

    private static void theDesks() {
        part = "the desks of the tests";
        FibrePairs busy = Desks.busy();
        int[] busyCounts = {4, 7, 4, 2, 2};
        FibrePairs full = Desks.full();
        int[] fullCounts = {7, 14, 12, 1, 1};
        for (int what = 0; what < 5; what++) {
            due("count of busy", busy.count(what), busyCounts[what]);
            due("count of full", full.count(what), fullCounts[what]);
        }
        due("exposed", busy.exposed(), 1);
        due("on", busy.about(0, 5), 1);
        due("count", busy.about(0, 6), 1);
        due("on", full.about(0, 5), 1);
        due("on", full.about(11, 5), 0);
        due("room on wavelength 3", full.bridge(0, 1, 3), FibrePairs.FITS);
    }

    private static void newObject() {
        part = "1 new object";
        Supplier<FibrePairs> made = FibrePairs::new;
        taken(made, "the last site", x -> x.fits(0, 1));
        refused(OUT, made, "a third site", x -> x.fits(0, 2));
        refused(OUT, made, "a first fibre", x -> x.user(0, 0));
        refused(OUT, made, "a first fibre", x -> x.lock(0, true));
        refused(OUT, made, "a first connection", x -> x.about(0, 0));
        refused(OUT, made, "a first connection", x -> x.release(0));
    }

    private static void clear() {
        part = "2 clear: IllegalArgumentException when sites is not 2 .. 7";
        for (int sites : new int[] {1, 8, 0, -1, -2, -7, MIN_VALUE, MIN_VALUE + 2, MAX_VALUE}) {
            refused(ARGUMENT, FibrePairs::new, "clear(" + sites + ")", x -> x.clear(sites));
            refused(ARGUMENT, Desks::busy, "clear(" + sites + ")", x -> x.clear(sites));
            refused(ARGUMENT, Desks::full, "clear(" + sites + ")", x -> x.clear(sites));
        }
        for (int sites = 2; sites <= 7; sites++) {
            int asked = sites;
            taken(Desks::busy, "clear(" + asked + ")", x -> x.clear(asked));
            taken(() -> Desks.of(asked), "the last site", x -> x.fits(0, asked - 1));
            refused(OUT, () -> Desks.of(asked), "a site too many", x -> x.fits(0, asked));
        }
    }

    private static void fibreSites() {
        part = "3 fibre: IndexOutOfBoundsException when there is no such site";
        for (int bad : beyond(4)) {
            refused(OUT, Desks::busy, "fibre(" + bad + ", 0, 1)", x -> x.fibre(bad, 0, 1));
            refused(OUT, Desks::busy, "fibre(0, " + bad + ", 1)", x -> x.fibre(0, bad, 1));
        }
        refused(OUT, () -> Desks.of(2), "fibre(0, 2, 1)", x -> x.fibre(0, 2, 1));
        refused(OUT, () -> Desks.of(7), "fibre(7, 0, 1)", x -> x.fibre(7, 0, 1));
        due("the outermost sites", Desks.of(2).fibre(0, 1, 1), 0);
        due("the outermost sites", Desks.of(7).fibre(6, 0, 1), 0);
        due("the outermost sites", Desks.busy().fibre(0, 3, 1), 7);
        due("the outermost sites", Desks.busy().fibre(3, 0, 1), 7);
    }

    private static void fibreLength() {
        part = "3 fibre: IllegalArgumentException when a is b, or length not 1 .. 100";
        for (int site = 0; site < 4; site++) {
            int both = site;
            refused(ARGUMENT, Desks::busy, "fibre(" + both + ", " + both + ", 1)", x -> x.fibre(both, both, 1));
        }
        for (int length : new int[] {0, 101, -1, -100, 256, MIN_VALUE, MIN_VALUE + 1, MAX_VALUE}) {
            refused(ARGUMENT, Desks::busy, "fibre(0, 1, " + length + ")", x -> x.fibre(0, 1, length));
        }
        for (int length : new int[] {1, 2, 99, 100}) {
            FibrePairs x = new FibrePairs();
            due("fibre(0, 1, " + length + ")", x.fibre(0, 1, length), 0);
            due("request", x.request(0, 1, false), 0);
            due("its length", x.about(0, 3), length);
        }
    }

    private static void fibreFourteen() {
        part = "3 fibre: IllegalStateException when there are 14";
        due("the 14th", Desks.parallel(13).fibre(0, 1, 1), 13);
        refused(STATE, RefusalTest::fourteen, "the 15th", x -> x.fibre(0, 1, 1));
        refused(STATE, RefusalTest::fourteen, "the 15th", x -> x.fibre(1, 0, 100));
        refused(STATE, Desks::full, "the 15th", x -> x.fibre(5, 6, 50));
        FibrePairs x = fourteen();
        x.clear(2);
        due("the first one again", x.fibre(0, 1, 1), 0);
    }

    private static void fibreFirstNamed() {
        part = "3 fibre: the exception named first";
        refused(OUT, Desks::busy, "no such site, a is b", x -> x.fibre(4, 4, 1));
        refused(OUT, Desks::busy, "no such site, a is b", x -> x.fibre(-1, -1, 1));
        refused(OUT, Desks::busy, "no such site, length 0", x -> x.fibre(-1, 0, 0));
        refused(OUT, Desks::busy, "no such site, length 101", x -> x.fibre(0, 4, 101));
        refused(OUT, Desks::full, "no such site, 14 fibres", x -> x.fibre(0, 7, 1));
        refused(OUT, Desks::full, "no such site, 14 fibres", x -> x.fibre(-1, 0, 1));
        refused(OUT, Desks::full, "all three", x -> x.fibre(7, 7, 0));
        refused(ARGUMENT, Desks::full, "a is b, 14 fibres", x -> x.fibre(6, 6, 1));
        refused(ARGUMENT, Desks::full, "length 0, 14 fibres", x -> x.fibre(0, 6, 0));
        refused(ARGUMENT, Desks::full, "length 101, 14 fibres", x -> x.fibre(0, 6, 101));
    }

    private static void requestSites() {
        part = "4 request: IndexOutOfBoundsException when there is no such site; IllegalArgumentException when a is b";
        for (boolean protect : new boolean[] {true, false}) {
            for (int bad : beyond(4)) {
                refused(OUT, Desks::busy, "request(" + bad + ", 0)", x -> x.request(bad, 0, protect));
                refused(OUT, Desks::busy, "request(0, " + bad + ")", x -> x.request(0, bad, protect));
            }
            for (int site = 0; site < 4; site++) {
                int both = site;
                refused(ARGUMENT, Desks::busy, "request(" + both + ", " + both + ")", x -> x.request(both, both, protect));
            }
        }
        due("the outermost sites", Desks.of(4, 0, 3, 1).request(0, 3, false), 0);
        due("the outermost sites", Desks.of(4, 0, 3, 1).request(3, 0, false), 0);
    }

    private static void requestTwelve() {
        part = "4 request: IllegalStateException when there are 12 connections";
        refused(STATE, Desks::full, "a pair would be there", x -> x.request(0, 1, true));
        refused(STATE, Desks::full, "a path would be there", x -> x.request(0, 1, false));
        refused(STATE, Desks::full, "no pair would be there", x -> x.request(0, 6, true));
        refused(STATE, Desks::full, "no path would be there", x -> x.request(0, 6, false));
        for (int id = 0; id < 12; id++) {
            FibrePairs x = Desks.full();
            x.release(id);
            due("the 12th", x.request(0, 1, true), id);
        }
        FibrePairs x = Desks.full();
        x.release(11);
        due("the 12th, which has no path", x.request(0, 6, false), NONE);
        FibrePairs y = Desks.full();
        y.clear(2);
        due("no fibres any more", y.request(0, 1, false), NONE);
    }

    private static void requestFirstNamed() {
        part = "4 request: the exception named first";
        refused(OUT, Desks::busy, "no such site, a is b", x -> x.request(4, 4, true));
        refused(OUT, Desks::busy, "no such site, a is b", x -> x.request(-1, -1, false));
        refused(OUT, Desks::full, "no such site, 12 connections", x -> x.request(0, 7, true));
        refused(OUT, Desks::full, "no such site, 12 connections", x -> x.request(-1, 0, false));
        refused(OUT, Desks::full, "all three", x -> x.request(7, 7, true));
        refused(ARGUMENT, Desks::full, "a is b, 12 connections", x -> x.request(6, 6, true));
        refused(ARGUMENT, Desks::full, "a is b, 12 connections", x -> x.request(0, 0, false));
    }

    private static void release() {
        part = "5 release: IndexOutOfBoundsException when it is not";
        for (int id : beyond(12)) {
            refused(OUT, Desks::full, "release(" + id + ")", x -> x.release(id));
        }
        for (int id : new int[] {-1, 2, 5, 11, 12}) {
            refused(OUT, Desks::busy, "release(" + id + ")", x -> x.release(id));
        }
        for (int id = 0; id < 12; id++) {
            int asked = id;
            taken(Desks::full, "release(" + id + ")", x -> x.release(asked));
            refused(OUT, () -> releasedFull(asked), "release(" + id + ") again", x -> x.release(asked));
        }
        refused(OUT, () -> cleared(Desks.full(), 7), "release(0)", x -> x.release(0));
    }

    private static FibrePairs releasedFull(int id) {
        FibrePairs x = Desks.full();
        x.release(id);
        return x;
    }

    private static FibrePairs cleared(FibrePairs x, int sites) {
        x.clear(sites);
        return x;
    }

    private static void lockFibre() {
        part = "6 lock: IndexOutOfBoundsException when there is no such fibre";
        for (boolean on : new boolean[] {true, false}) {
            for (int bad : beyond(7)) {
                refused(OUT, Desks::busy, "lock(" + bad + ", " + on + ")", x -> x.lock(bad, on));
            }
            for (int bad : beyond(14)) {
                refused(OUT, Desks::full, "lock(" + bad + ", " + on + ")", x -> x.lock(bad, on));
            }
            refused(OUT, () -> cleared(Desks.full(), 7), "lock(12, " + on + ")", x -> x.lock(12, on));
        }
        taken(Desks::full, "lock(0, true)", x -> x.lock(0, true));
        taken(Desks::full, "lock(13, true), which is cut", x -> x.lock(13, true));
    }

    private static void lockAlready() {
        part = "6 lock: IllegalStateException when it is so already";
        for (int fibre = 0; fibre < 7; fibre++) {
            int asked = fibre;
            boolean locked = fibre >= 5;
            refused(STATE, Desks::busy, "lock(" + fibre + ", " + locked + ")", x -> x.lock(asked, locked));
            taken(Desks::busy, "lock(" + fibre + ", " + !locked + ")", x -> x.lock(asked, !locked));
        }
        refused(STATE, RefusalTest::relaid, "lock(5, false) of a new fibre", x -> x.lock(5, false));
    }

    /** The busy desk is cleared, and has seven new fibres. */
    private static FibrePairs relaid() {
        FibrePairs x = cleared(Desks.busy(), 4);
        for (int fibre = 0; fibre < 7; fibre++) {
            due("a new fibre", x.fibre(0, 1, 1), fibre);
        }
        return x;
    }

    private static void cutFibre() {
        part = "7 cut: IndexOutOfBoundsException when there is no such fibre";
        for (int bad : beyond(7)) {
            refused(OUT, Desks::busy, "cut(" + bad + ")", x -> x.cut(bad));
        }
        for (int bad : beyond(14)) {
            refused(OUT, Desks::full, "cut(" + bad + ")", x -> x.cut(bad));
        }
        refused(OUT, () -> cleared(Desks.full(), 7), "cut(0)", x -> x.cut(0));
        taken(Desks::full, "cut(0)", x -> x.cut(0));
        taken(RefusalTest::fourteen, "cut(13)", x -> x.cut(13));
    }

    private static void cutAlready() {
        part = "7 cut: IllegalStateException when it is cut";
        for (int fibre = 0; fibre < 7; fibre++) {
            int asked = fibre;
            if (fibre == 2 || fibre == 3) {
                refused(STATE, Desks::busy, "cut(" + fibre + ")", x -> x.cut(asked));
            } else {
                taken(Desks::busy, "cut(" + fibre + ")", x -> x.cut(asked));
            }
        }
        refused(STATE, Desks::full, "cut(13)", x -> x.cut(13));
        taken(RefusalTest::relaid, "cut(2) of a new fibre", x -> x.cut(2));
    }

    private static void mendFibre() {
        part = "8 mend: IndexOutOfBoundsException when there is no such fibre";
        for (int bad : beyond(7)) {
            refused(OUT, Desks::busy, "mend(" + bad + ")", x -> x.mend(bad));
        }
        for (int bad : beyond(14)) {
            refused(OUT, Desks::full, "mend(" + bad + ")", x -> x.mend(bad));
        }
        refused(OUT, () -> cleared(Desks.full(), 7), "mend(13)", x -> x.mend(13));
        taken(Desks::full, "mend(13)", x -> x.mend(13));
        taken(Desks::full, "mend(0)", x -> {
            x.cut(0);
            x.mend(0);
        });
    }

    private static void mendWhole() {
        part = "8 mend: IllegalStateException when it is not cut";
        for (int fibre = 0; fibre < 7; fibre++) {
            int asked = fibre;
            if (fibre == 2 || fibre == 3) {
                taken(Desks::busy, "mend(" + fibre + ")", x -> x.mend(asked));
            } else {
                refused(STATE, Desks::busy, "mend(" + fibre + ")", x -> x.mend(asked));
            }
        }
        refused(STATE, Desks::full, "mend(12), which is locked", x -> x.mend(12));
        refused(STATE, RefusalTest::relaid, "mend(2) of a new fibre", x -> x.mend(2));
    }

    private static void hold() {
        part = "9 hold: IllegalArgumentException when n is not 0 .. 1000";
        for (int n : new int[] {-1, 1001, -1000, MIN_VALUE, MIN_VALUE + 1, MAX_VALUE}) {
            refused(ARGUMENT, FibrePairs::new, "hold(" + n + ")", x -> x.hold(n));
            refused(ARGUMENT, Desks::busy, "hold(" + n + ")", x -> x.hold(n));
            refused(ARGUMENT, Desks::full, "hold(" + n + ")", x -> x.hold(n));
        }
        for (int n : new int[] {0, 1, 999, 1000}) {
            taken(Desks::busy, "hold(" + n + ")", x -> x.hold(n));
        }
    }

    private static void path() {
        part = "11 path: IndexOutOfBoundsException when there is no such connection";
        for (boolean spare : new boolean[] {true, false}) {
            for (int bad : beyond(12)) {
                refused(OUT, Desks::full, "path(" + bad + ", " + spare + ", 0)", x -> x.path(bad, spare, 0));
            }
            for (int bad : new int[] {-1, 2, 5, 11, 12}) {
                refused(OUT, Desks::busy, "path(" + bad + ", " + spare + ", 0)", x -> x.path(bad, spare, 0));
                refused(OUT, Desks::busy, "path(" + bad + ", " + spare + ", -1)", x -> x.path(bad, spare, -1));
                refused(OUT, Desks::busy, "path(" + bad + ", " + spare + ", 9)", x -> x.path(bad, spare, 9));
            }
        }
        due("the first one", Desks.full().path(0, false, 0), 0);
        due("the last one", Desks.full().path(11, true, 0), 7);
    }

    private static void aboutConnection() {
        part = "12 about: IndexOutOfBoundsException when there is no such connection";
        for (int bad : beyond(12)) {
            refused(OUT, Desks::full, "about(" + bad + ", 0)", x -> x.about(bad, 0));
        }
        for (int bad : new int[] {-1, 2, 5, 11, 12}) {
            for (int what = 0; what < 7; what++) {
                int asked = what;
                refused(OUT, Desks::busy, "about(" + bad + ", " + what + ")", x -> x.about(bad, asked));
            }
            refused(OUT, Desks::busy, "about(" + bad + ", -1), named first", x -> x.about(bad, -1));
            refused(OUT, Desks::busy, "about(" + bad + ", 7), named first", x -> x.about(bad, 7));
        }
        due("the first one", Desks.full().about(0, 0), 0);
        due("the last one", Desks.full().about(11, 0), 2);
    }

    private static void aboutWhat() {
        part = "12 about: IllegalArgumentException when what is none of these";
        for (int what : new int[] {-1, 7, 8, -7, 256, MIN_VALUE, MAX_VALUE}) {
            refused(ARGUMENT, Desks::busy, "about(0, " + what + ")", x -> x.about(0, what));
            refused(ARGUMENT, Desks::full, "about(11, " + what + ")", x -> x.about(11, what));
        }
        taken(Desks::busy, "about(0, 0)", x -> x.about(0, 0));
        taken(Desks::busy, "about(0, 6)", x -> x.about(0, 6));
    }

    private static void user() {
        part = "13 user: IndexOutOfBoundsException when there is no such fibre or wavelength";
        for (int bad : beyond(7)) {
            refused(OUT, Desks::busy, "user(" + bad + ", 0)", x -> x.user(bad, 0));
        }
        for (int bad : beyond(14)) {
            refused(OUT, Desks::full, "user(" + bad + ", 3)", x -> x.user(bad, 3));
        }
        for (int bad : beyond(4)) {
            refused(OUT, Desks::busy, "user(0, " + bad + ")", x -> x.user(0, bad));
            refused(OUT, Desks::full, "user(13, " + bad + ")", x -> x.user(13, bad));
            refused(OUT, Desks::busy, "user(7, " + bad + ")", x -> x.user(7, bad));
        }
        refused(OUT, () -> cleared(Desks.full(), 7), "user(0, 0)", x -> x.user(0, 0));
        taken(Desks::busy, "the outermost", x -> x.user(0, 0));
        taken(Desks::busy, "the outermost", x -> x.user(6, 3));
        taken(Desks::full, "the outermost", x -> x.user(13, 3));
    }

    private static void move() {
        part = "14 move: IndexOutOfBoundsException when there is no such connection";
        for (int bad : beyond(12)) {
            refused(OUT, Desks::full, "move(" + bad + ")", x -> x.move(bad));
        }
        for (int bad : new int[] {-1, 2, 5, 11, 12}) {
            refused(OUT, Desks::busy, "move(" + bad + ")", x -> x.move(bad));
        }
        due("the first one", Desks.full().move(0), 3);
        due("the last one", Desks.full().move(11), 3);
    }

    private static void fits() {
        part = "15 fits: IndexOutOfBoundsException when there is no such site; IllegalArgumentException when a is b";
        for (int bad : beyond(4)) {
            refused(OUT, Desks::busy, "fits(" + bad + ", 0)", x -> x.fits(bad, 0));
            refused(OUT, Desks::busy, "fits(0, " + bad + ")", x -> x.fits(0, bad));
            refused(OUT, Desks::busy, "fits(" + bad + ", " + bad + "), named first", x -> x.fits(bad, bad));
        }
        refused(OUT, Desks::full, "fits(0, 7)", x -> x.fits(0, 7));
        for (int site = 0; site < 4; site++) {
            int both = site;
            refused(ARGUMENT, Desks::busy, "fits(" + both + ", " + both + ")", x -> x.fits(both, both));
        }
        taken(Desks::busy, "the outermost sites", x -> x.fits(0, 3));
        taken(Desks::full, "the outermost sites", x -> x.fits(6, 0));
    }

    private static void bridge() {
        part = "16 bridge: IndexOutOfBoundsException when there is no such site or wavelength; IllegalArgumentException when a is b";
        for (int bad : beyond(4)) {
            refused(OUT, Desks::busy, "bridge(" + bad + ", 0, 0)", x -> x.bridge(bad, 0, 0));
            refused(OUT, Desks::busy, "bridge(0, " + bad + ", 0)", x -> x.bridge(0, bad, 0));
            refused(OUT, Desks::busy, "bridge(0, 1, " + bad + ")", x -> x.bridge(0, 1, bad));
            refused(OUT, Desks::busy, "bridge(" + bad + ", " + bad + ", 0), named first", x -> x.bridge(bad, bad, 0));
            refused(OUT, Desks::busy, "bridge(1, 1, " + bad + "), named first", x -> x.bridge(1, 1, bad));
        }
        refused(OUT, Desks::full, "bridge(0, 7, 3)", x -> x.bridge(0, 7, 3));
        for (int site = 0; site < 4; site++) {
            int both = site;
            refused(ARGUMENT, Desks::busy, "bridge(" + both + ", " + both + ", 0)", x -> x.bridge(both, both, 0));
            refused(ARGUMENT, Desks::busy, "bridge(" + both + ", " + both + ", 3)", x -> x.bridge(both, both, 3));
        }
        taken(Desks::busy, "the outermost", x -> x.bridge(0, 3, 0));
        taken(Desks::full, "the outermost", x -> x.bridge(6, 0, 3));
    }

    private static void count() {
        part = "18 count: IllegalArgumentException when what is none of these";
        for (int what : new int[] {-1, 5, 6, -5, 256, MIN_VALUE, MAX_VALUE}) {
            refused(ARGUMENT, FibrePairs::new, "count(" + what + ")", x -> x.count(what));
            refused(ARGUMENT, Desks::busy, "count(" + what + ")", x -> x.count(what));
            refused(ARGUMENT, Desks::full, "count(" + what + ")", x -> x.count(what));
        }
        taken(Desks::busy, "count(0)", x -> x.count(0));
        taken(Desks::busy, "count(4)", x -> x.count(4));
    }
}
