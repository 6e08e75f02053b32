import static java.lang.Integer.MAX_VALUE;
import static java.lang.Integer.MIN_VALUE;

/** The promises of the document, one by one: ordinary inputs, the edges it names, wrong inputs. */
public final class PromiseTest {
    private static final Class<IndexOutOfBoundsException> OUT = IndexOutOfBoundsException.class;
    private static final Class<IllegalArgumentException> ARGUMENT = IllegalArgumentException.class;
    private static final Class<IllegalStateException> STATE = IllegalStateException.class;
    private static final int NONE = FibrePairs.NONE;
    private static final int FITS = FibrePairs.FITS;

    private static String part = "";

    public static void main(String[] args) {
        newObject();
        clear();
        fibre();
        requestLeastTogether();
        requestBestLists();
        requestParting();
        requestUnprotected();
        requestNumbersAndWavelengths();
        requestRefused();
        release();
        lock();
        cut();
        mend();
        hold();
        clock();
        countStaysOnReturn();
        path();
        about();
        user();
        move();
        fits();
        bridge();
        exposed();
        count();
        Checks.end();
    }

    private static void due(String what, long got, long want) {
        Checks.due(part + ": " + what, got, want);
    }

    private static void refused(String what, Class<? extends RuntimeException> want, Runnable call) {
        Checks.refused(part + ": " + what, want, call);
    }

    private static void duePath(FibrePairs x, int id, boolean spare, int... fibres) {
        String whose = "path(" + id + ", " + spare + ", ";
        for (int i = 0; i < fibres.length; i++) {
            due(whose + i + ")", x.path(id, spare, i), fibres[i]);
        }
        due(whose + fibres.length + ")", x.path(id, spare, fibres.length), NONE);
    }

    private static void dueCounts(FibrePairs x, int sites, int fibres, int connections, int cut, int locked) {
        due("count(0)", x.count(0), sites);
        due("count(1)", x.count(1), fibres);
        due("count(2)", x.count(2), connections);
        due("count(3)", x.count(3), cut);
        due("count(4)", x.count(4), locked);
    }

    private static void newObject() {
        part = "1 new object";
        FibrePairs x = new FibrePairs();
        dueCounts(x, 2, 0, 0, 0, 0);
        due("exposed", x.exposed(), 0);
        due("fits", x.fits(0, 1), 0);
        refused("about(0, 0)", OUT, () -> x.about(0, 0));
        refused("user(0, 0)", OUT, () -> x.user(0, 0));
        refused("fits(0, 2)", OUT, () -> x.fits(0, 2));
        due("fibre", x.fibre(0, 1, 1), 0);
        due("fibre", x.fibre(0, 1, 1), 1);
        due("request", x.request(0, 1, true), 0);
        x.cut(0);
        due("on", x.about(0, 5), 1);
        x.mend(0);
        due("on, the hold being 0", x.about(0, 5), 0);
        FibrePairs y = new FibrePairs();
        dueCounts(y, 2, 0, 0, 0, 0);
    }

    private static void clear() {
        part = "2 clear";
        FibrePairs x = Desks.guarded();
        x.hold(5);
        x.lock(0, true);
        x.cut(1);
        for (int sites : new int[] {1, 8, 0, -1, MIN_VALUE, MAX_VALUE}) {
            refused("clear(" + sites + ")", ARGUMENT, () -> x.clear(sites));
        }
        dueCounts(x, 2, 2, 1, 1, 1);
        for (int sites = 7; sites >= 2; sites--) {
            x.clear(sites);
            dueCounts(x, sites, 0, 0, 0, 0);
            int last = sites - 1;
            due("fibre", x.fibre(last - 1, last, 1), 0);
            refused("fibre beyond the last site", OUT, () -> x.fibre(0, last + 1, 1));
        }
        refused("about", OUT, () -> x.about(0, 0));
        due("second fibre", x.fibre(0, 1, 2), 1);
        due("user", x.user(0, 0), NONE);
        due("fits", x.fits(0, 1), 4);
        due("request", x.request(0, 1, true), 0);
        x.cut(0);
        x.mend(0);
        due("on, the hold being 0 again", x.about(0, 5), 0);
        x.cut(0);
        x.clear(3);
        due("fibre", x.fibre(0, 1, 1), 0);
        refused("mend of a new fibre", STATE, () -> x.mend(0));
        refused("unlock of a new fibre", STATE, () -> x.lock(0, false));
    }

    private static void fibre() {
        part = "3 fibre";
        FibrePairs x = Desks.of(3);
        refused("fibre(-1, 0, 1)", OUT, () -> x.fibre(-1, 0, 1));
        refused("fibre(0, -1, 1)", OUT, () -> x.fibre(0, -1, 1));
        refused("fibre(3, 0, 1)", OUT, () -> x.fibre(3, 0, 1));
        refused("fibre(0, 3, 1)", OUT, () -> x.fibre(0, 3, 1));
        refused("fibre(3, 3, 0)", OUT, () -> x.fibre(3, 3, 0));
        refused("fibre(1, 1, 1)", ARGUMENT, () -> x.fibre(1, 1, 1));
        refused("fibre(0, 1, 0)", ARGUMENT, () -> x.fibre(0, 1, 0));
        refused("fibre(0, 1, 101)", ARGUMENT, () -> x.fibre(0, 1, 101));
        refused("fibre(0, 1, least)", ARGUMENT, () -> x.fibre(0, 1, MIN_VALUE));
        due("count(1)", x.count(1), 0);
        due("length 1", x.fibre(0, 1, 1), 0);
        due("length 100", x.fibre(2, 1, 100), 1);
        for (int number = 2; number < 14; number++) {
            due("fibre", x.fibre(0, 1, 50), number);
        }
        refused("the 15th", STATE, () -> x.fibre(0, 1, 1));
        refused("the 15th, no such site", OUT, () -> x.fibre(0, 3, 1));
        refused("the 15th, one site", ARGUMENT, () -> x.fibre(2, 2, 1));
        refused("the 15th, too long", ARGUMENT, () -> x.fibre(0, 1, 101));
        due("count(1)", x.count(1), 14);
        due("request through the second fibre both ways", x.request(2, 0, false), 0);
        duePath(x, 0, false, 1, 0);
        due("length", x.about(0, 3), 101);
    }

    private static void requestLeastTogether() {
        part = "4 request, least together";
        // The shortest path 0-1-2-3 (3) leaves no second one: both must leave the middle fibre.
        FibrePairs x = Desks.of(4, 0, 1, 1, 1, 2, 1, 2, 3, 1, 0, 2, 5, 1, 3, 4);
        due("request", x.request(0, 3, true), 0);
        duePath(x, 0, false, 0, 4);
        duePath(x, 0, true, 3, 2);
        due("working length", x.about(0, 3), 5);
        due("spare length", x.about(0, 4), 6);
        // The shortest path has a second one (12 together), but another pair is shorter (11).
        FibrePairs y = Desks.of(4, 0, 1, 1, 1, 2, 1, 2, 3, 1, 0, 2, 5, 1, 3, 4, 0, 3, 9);
        due("request", y.request(3, 0, true), 0);
        duePath(y, 0, false, 4, 0);
        duePath(y, 0, true, 2, 3);
        due("request", y.request(0, 3, true), 1);
        duePath(y, 1, false, 0, 4);
        duePath(y, 1, true, 3, 2);
        // Two paths may come through the same site, and parallel fibres are no common fibre.
        FibrePairs z = Desks.of(3, 0, 1, 1, 0, 1, 1, 1, 2, 1, 2, 1, 3);
        due("request", z.request(0, 2, true), 0);
        duePath(z, 0, false, 0, 2);
        duePath(z, 0, true, 1, 3);
        // Fibres that only lead round behind the end make no second path.
        FibrePairs w = Desks.of(3, 0, 1, 1, 1, 2, 1, 1, 2, 1);
        due("request", w.request(0, 1, true), NONE);
        due("the longest path", longestPath().about(0, 3), 600);
    }

    private static FibrePairs longestPath() {
        FibrePairs x = Desks.of(7, 0, 1, 100, 1, 2, 100, 2, 3, 100, 3, 4, 100, 4, 5, 100, 5, 6, 100,
                6, 5, 100, 5, 4, 100, 4, 3, 100, 3, 2, 100, 2, 1, 100, 1, 0, 100);
        due("request", x.request(0, 6, true), 0);
        duePath(x, 0, false, 0, 1, 2, 3, 4, 5);
        duePath(x, 0, true, 11, 10, 9, 8, 7, 6);
        due("spare length", x.about(0, 4), 600);
        return x;
    }

    private static void requestBestLists() {
        part = "4 request, best lists";
        FibrePairs x = Desks.of(2, 0, 1, 7, 0, 1, 3, 1, 0, 3, 0, 1, 3);
        due("request", x.request(0, 1, true), 0);
        duePath(x, 0, false, 1);
        duePath(x, 0, true, 2);
        // Of the lists 0 5 and 1 2 the first one comes first, though 5 is the highest number.
        FibrePairs y = Desks.of(4, 0, 1, 2, 0, 2, 2, 2, 3, 2, 0, 3, 9, 0, 3, 9, 1, 3, 2);
        due("request", y.request(0, 3, false), 0);
        duePath(y, 0, false, 0, 5);
        // Of the lists 0 and 1 2 the first one, of 0 2 and 1 the first one: the fewest fibres decide nothing.
        FibrePairs z = Desks.of(3, 0, 1, 4, 0, 2, 2, 2, 1, 2);
        due("request", z.request(0, 1, false), 0);
        duePath(z, 0, false, 0);
        FibrePairs w = Desks.of(3, 0, 2, 2, 0, 1, 4, 2, 1, 2);
        due("request", w.request(0, 1, false), 0);
        duePath(w, 0, false, 0, 2);
        // Three paths of the same length: of the pairs' lists 0 1 2 3 comes before 0 1 4 and 2 3 4.
        FibrePairs v = Desks.of(4, 0, 1, 5, 1, 3, 5, 0, 2, 4, 2, 3, 6, 0, 3, 10);
        due("request", v.request(0, 3, true), 0);
        duePath(v, 0, false, 0, 1);
        duePath(v, 0, true, 2, 3);
        // 0 3 with 1 4 are listed 0 1 3 4, before 0 3 with 2, which are listed 0 2 3.
        FibrePairs u = Desks.of(4, 0, 1, 1, 0, 2, 1, 0, 3, 2, 1, 3, 1, 2, 3, 1);
        due("request", u.request(0, 3, true), 0);
        duePath(u, 0, false, 0, 3);
        duePath(u, 0, true, 1, 4);
    }

    private static void requestParting() {
        part = "4 request, parting";
        // Fibres 0 1 join 0 and 1, fibres 2 3 join 1 and 2: the working path is as short as can be.
        FibrePairs x = Desks.of(3, 0, 1, 1, 0, 1, 2, 1, 2, 2, 1, 2, 1);
        due("request", x.request(0, 2, true), 0);
        duePath(x, 0, false, 0, 3);
        duePath(x, 0, true, 1, 2);
        due("working length", x.about(0, 3), 2);
        due("spare length", x.about(0, 4), 4);
        // Both partings have a shorter path of 2: of the lists 1 2 and 1 3 the first one decides.
        FibrePairs y = Desks.of(3, 0, 1, 2, 0, 1, 1, 1, 2, 1, 1, 2, 1);
        due("request", y.request(0, 2, true), 0);
        duePath(y, 0, false, 1, 2);
        duePath(y, 0, true, 0, 3);
        // Both paths of a parting are of the same length: the one listed first is the working path.
        FibrePairs z = Desks.of(4, 1, 3, 1, 0, 2, 1, 2, 3, 1, 0, 1, 1);
        due("request", z.request(0, 3, true), 0);
        duePath(z, 0, false, 3, 0);
        duePath(z, 0, true, 1, 2);
        // The shorter path is the working one, though the other one is listed first.
        FibrePairs w = Desks.of(2, 0, 1, 2, 0, 1, 1);
        due("request", w.request(0, 1, true), 0);
        duePath(w, 0, false, 1);
        duePath(w, 0, true, 0);
    }

    private static void requestUnprotected() {
        part = "4 request, not protected";
        FibrePairs x = Desks.of(3, 0, 2, 9, 0, 1, 4, 1, 2, 4);
        due("request", x.request(2, 0, false), 0);
        duePath(x, 0, false, 2, 1);
        duePath(x, 0, true);
        due("spare length", x.about(0, 4), NONE);
        due("user of fibre 0", x.user(0, 0), NONE);
        due("request", x.request(2, 0, false), 1);
        due("wavelength", x.about(1, 0), 0);
        duePath(x, 1, false, 0);
    }

    private static void requestNumbersAndWavelengths() {
        part = "4 request, numbers and wavelengths";
        FibrePairs x = Desks.of(2, 0, 1, 1, 0, 1, 1, 0, 1, 1);
        for (int id = 0; id < 4; id++) {
            due("request", x.request(0, 1, true), id);
            due("wavelength", x.about(id, 0), id);
        }
        due("request", x.request(0, 1, true), NONE);
        due("count(2)", x.count(2), 4);
        for (int id = 4; id < 8; id++) {
            due("request", x.request(1, 0, false), id);
            due("wavelength", x.about(id, 0), id - 4);
            duePath(x, id, false, 2);
        }
        due("request", x.request(0, 1, false), NONE);
        x.release(2);
        x.release(5);
        due("the least number", x.request(0, 1, false), 2);
        due("its wavelength", x.about(2, 0), 1);
        duePath(x, 2, false, 2);
        due("the next number", x.request(0, 1, true), 5);
        due("its wavelength", x.about(5, 0), 2);
        // Locked and cut fibres are free on no wavelength.
        FibrePairs y = Desks.of(2, 0, 1, 1, 0, 1, 2, 0, 1, 3, 0, 1, 4);
        y.lock(0, true);
        y.cut(2);
        due("request", y.request(0, 1, true), 0);
        duePath(y, 0, false, 1);
        duePath(y, 0, true, 3);
        y.lock(0, false);
        y.mend(2);
        due("request", y.request(0, 1, true), 1);
        due("wavelength", y.about(1, 0), 0);
        duePath(y, 1, false, 0);
        duePath(y, 1, true, 2);
    }

    private static void requestRefused() {
        part = "4 request, refused";
        FibrePairs x = Desks.of(3, 0, 1, 1, 0, 1, 1, 0, 1, 1);
        refused("request(-1, 0)", OUT, () -> x.request(-1, 0, true));
        refused("request(0, 3)", OUT, () -> x.request(0, 3, false));
        refused("request(3, 3)", OUT, () -> x.request(3, 3, true));
        refused("request(1, 1)", ARGUMENT, () -> x.request(1, 1, false));
        due("nothing changed", x.count(2), 0);
        due("no fibre to 2", x.request(0, 2, false), NONE);
        due("no pair to 2", x.request(0, 2, true), NONE);
        for (int id = 0; id < 12; id++) {
            due("request", x.request(0, 1, false), id);
        }
        refused("the 13th", STATE, () -> x.request(0, 1, false));
        refused("the 13th, that has no path", STATE, () -> x.request(0, 2, true));
        refused("the 13th, one site", ARGUMENT, () -> x.request(0, 0, true));
        refused("the 13th, no such site", OUT, () -> x.request(0, MAX_VALUE, true));
        due("count(2)", x.count(2), 12);
        x.release(11);
        due("the 12th again", x.request(1, 0, false), 11);
    }

    private static void release() {
        part = "5 release";
        FibrePairs x = Desks.guarded();
        due("request", x.request(0, 1, true), 1);
        for (int id : new int[] {-1, 2, 11, 12, MIN_VALUE, MAX_VALUE}) {
            refused("release(" + id + ")", OUT, () -> x.release(id));
        }
        due("count(2)", x.count(2), 2);
        x.release(0);
        due("count(2)", x.count(2), 1);
        due("user", x.user(0, 0), NONE);
        due("user", x.user(1, 0), NONE);
        due("user", x.user(0, 1), 1);
        refused("release(0) again", OUT, () -> x.release(0));
        refused("about(0, 0)", OUT, () -> x.about(0, 0));
        x.release(1);
        due("count(2)", x.count(2), 0);
        due("fits", x.fits(0, 1), 4);
        // One that is there no more neither changes over nor counts.
        FibrePairs y = Desks.guarded();
        y.cut(0);
        y.cut(1);
        due("exposed", y.exposed(), 1);
        y.release(0);
        due("exposed", y.exposed(), 0);
        y.mend(0);
        y.mend(1);
        due("request", y.request(0, 1, true), 0);
        due("on", y.about(0, 5), 0);
        due("count", y.about(0, 6), 0);
    }

    private static void lock() {
        part = "6 lock";
        FibrePairs x = Desks.guarded();
        for (int fibre : new int[] {-1, 2, 14, 32, MIN_VALUE, MAX_VALUE}) {
            refused("lock(" + fibre + ", true)", OUT, () -> x.lock(fibre, true));
            refused("lock(" + fibre + ", false)", OUT, () -> x.lock(fibre, false));
        }
        refused("lock(0, false)", STATE, () -> x.lock(0, false));
        x.lock(0, true);
        refused("lock(0, true)", STATE, () -> x.lock(0, true));
        due("count(4)", x.count(4), 1);
        due("the connection goes on", x.about(0, 5), 0);
        due("and uses it", x.user(0, 0), 0);
        due("fits", x.fits(0, 1), 0);
        due("bridge", x.bridge(0, 1, 1), 1);
        x.lock(1, true);
        due("bridge", x.bridge(0, 1, 1), NONE);
        x.lock(0, false);
        due("count(4)", x.count(4), 1);
        due("bridge", x.bridge(0, 1, 1), 0);
        x.cut(1);
        due("bridge, one being cut and locked", x.bridge(0, 1, 1), 0);
        x.lock(1, false);
        due("bridge, that being cut yet", x.bridge(0, 1, 1), 0);
        x.mend(1);
        due("count(4)", x.count(4), 0);
        due("fits", x.fits(0, 1), 3);
    }

    private static void cut() {
        part = "7 cut";
        FibrePairs x = Desks.guarded();
        due("request", x.request(0, 1, false), 1);
        for (int fibre : new int[] {-1, 2, 32, MIN_VALUE, MAX_VALUE}) {
            refused("cut(" + fibre + ")", OUT, () -> x.cut(fibre));
        }
        x.cut(0);
        refused("cut(0) again", STATE, () -> x.cut(0));
        due("count(3)", x.count(3), 1);
        due("protected: on its spare", x.about(0, 5), 1);
        due("not protected: on none", x.about(1, 5), 2);
        due("it still uses the fibre", x.user(0, 0), 0);
        due("fits", x.fits(0, 1), 0);
        x.cut(1);
        due("on none", x.about(0, 5), 2);
        due("count(3)", x.count(3), 2);
        FibrePairs y = Desks.guarded();
        y.cut(1);
        due("the spare is cut: on the working path", y.about(0, 5), 0);
        y.cut(0);
        due("both are cut: on none", y.about(0, 5), 2);
        // A cut of the spare while the working path is whole ends the waiting; a cut fibre may be locked.
        FibrePairs z = Desks.guarded();
        z.hold(9);
        z.cut(0);
        z.mend(0);
        due("on its spare, waiting", z.about(0, 5), 1);
        z.lock(1, true);
        z.cut(1);
        due("on its working path", z.about(0, 5), 0);
        due("count(4)", z.count(4), 1);
        // A second cut while it waits sets the count to 0.
        FibrePairs w = Desks.guarded();
        w.hold(9);
        w.cut(0);
        w.mend(0);
        w.clock();
        due("count", w.about(0, 6), 1);
        w.cut(0);
        due("count", w.about(0, 6), 0);
        due("on its spare", w.about(0, 5), 1);
    }

    private static void mend() {
        part = "8 mend";
        FibrePairs x = Desks.guarded();
        for (int fibre : new int[] {-1, 2, 32, MIN_VALUE, MAX_VALUE}) {
            refused("mend(" + fibre + ")", OUT, () -> x.mend(fibre));
        }
        refused("mend(0)", STATE, () -> x.mend(0));
        x.cut(0);
        x.cut(1);
        refused("cut(1)", STATE, () -> x.cut(1));
        x.mend(1);
        refused("mend(1)", STATE, () -> x.mend(1));
        due("count(3)", x.count(3), 1);
        due("on its spare", x.about(0, 5), 1);
        x.mend(0);
        due("hold 0: on its working path", x.about(0, 5), 0);
        due("count(3)", x.count(3), 0);
        due("fits", x.fits(0, 1), 3);
        x.hold(3);
        x.cut(0);
        x.cut(1);
        x.mend(0);
        due("the spare is cut: on its working path at once", x.about(0, 5), 0);
        x.mend(1);
        due("stays there", x.about(0, 5), 0);
        // A path is whole only when its last cut fibre is mended.
        FibrePairs y = Desks.of(3, 0, 1, 1, 1, 2, 1, 0, 2, 9);
        due("request", y.request(0, 2, true), 0);
        due("request", y.request(0, 2, false), 1);
        y.cut(0);
        y.cut(1);
        y.mend(0);
        due("still on its spare", y.about(0, 5), 1);
        due("still on none", y.about(1, 5), 2);
        y.mend(1);
        due("on its working path", y.about(0, 5), 0);
        due("not protected: on its working path, whatever the hold", y.about(1, 5), 0);
    }

    private static void hold() {
        part = "9 hold";
        FibrePairs x = Desks.guarded();
        for (int n : new int[] {-1, 1001, MIN_VALUE, MAX_VALUE}) {
            refused("hold(" + n + ")", ARGUMENT, () -> x.hold(n));
        }
        x.hold(1000);
        x.cut(0);
        x.mend(0);
        due("on", x.about(0, 5), 1);
        x.clock();
        x.clock();
        x.hold(3);
        due("on, count 2 of 3", x.about(0, 5), 1);
        refused("hold(-1)", ARGUMENT, () -> x.hold(-1));
        refused("hold(1001)", ARGUMENT, () -> x.hold(1001));
        due("on, nothing changed", x.about(0, 5), 1);
        x.hold(2);
        due("on, count 2 of 2", x.about(0, 5), 0);
        due("count", x.about(0, 6), 2);
        x.hold(1000);
        due("a greater hold takes nothing back", x.about(0, 5), 0);
        x.cut(0);
        x.mend(0);
        due("on", x.about(0, 5), 1);
        x.hold(0);
        due("on, hold 0", x.about(0, 5), 0);
        due("count", x.about(0, 6), 0);
        // The hold is nothing to one that has no spare.
        FibrePairs y = Desks.of(2, 0, 1, 1);
        due("request", y.request(0, 1, false), 0);
        y.hold(1000);
        y.cut(0);
        y.mend(0);
        due("on", y.about(0, 5), 0);
    }

    private static void clock() {
        part = "10 clock";
        FibrePairs x = Desks.guarded();
        due("request", x.request(0, 1, true), 1);
        x.release(1);
        x.hold(2);
        x.clock();
        due("on its working path: no count", x.about(0, 6), 0);
        x.cut(0);
        x.clock();
        due("working path not whole: no count", x.about(0, 6), 0);
        due("on", x.about(0, 5), 1);
        x.mend(0);
        x.clock();
        due("count", x.about(0, 6), 1);
        due("on", x.about(0, 5), 1);
        x.clock();
        due("it counts first", x.about(0, 6), 2);
        due("and is on its working path then", x.about(0, 5), 0);
        x.clock();
        due("count", x.about(0, 6), 2);
        // Each connection counts for itself.
        FibrePairs y = Desks.of(3, 0, 1, 1, 0, 1, 2, 1, 2, 1, 1, 2, 2);
        due("request", y.request(0, 1, true), 0);
        due("request", y.request(1, 2, true), 1);
        y.hold(5);
        y.cut(0);
        y.cut(2);
        y.mend(0);
        y.clock();
        y.mend(2);
        y.clock();
        due("count of 0", y.about(0, 6), 2);
        due("count of 1", y.about(1, 6), 1);
    }

    private static void countStaysOnReturn() {
        part = "10 clock, the count stays";
        FibrePairs x = Desks.guarded();
        x.hold(1);
        x.cut(0);
        x.mend(0);
        x.clock();
        due("on", x.about(0, 5), 0);
        due("count", x.about(0, 6), 1);
        x.cut(1);
        x.mend(1);
        due("count after a cut of the spare", x.about(0, 6), 1);
        x.cut(0);
        due("count after a cut of the working path", x.about(0, 6), 0);
        x.mend(0);
        due("on", x.about(0, 5), 1);
    }

    private static void path() {
        part = "11 path";
        // The fibres' ends stand either way round; the order is from a to b.
        FibrePairs x = Desks.of(5, 3, 1, 1, 4, 3, 1, 1, 0, 1, 0, 2, 9, 4, 2, 9);
        due("request", x.request(0, 4, true), 0);
        duePath(x, 0, false, 2, 0, 1);
        duePath(x, 0, true, 3, 4);
        due("request", x.request(4, 0, true), 1);
        duePath(x, 1, false, 1, 0, 2);
        duePath(x, 1, true, 4, 3);
        for (int i : new int[] {-1, 5, 31, 32, MIN_VALUE, MAX_VALUE}) {
            due("path(0, false, " + i + ")", x.path(0, false, i), NONE);
            due("path(0, true, " + i + ")", x.path(0, true, i), NONE);
        }
        x.cut(0);
        duePath(x, 0, false, 2, 0, 1);
        for (int id : new int[] {-1, 2, 12, MIN_VALUE, MAX_VALUE}) {
            refused("path(" + id + ", false, 0)", OUT, () -> x.path(id, false, 0));
            refused("path(" + id + ", true, -1)", OUT, () -> x.path(id, true, -1));
        }
    }

    private static void about() {
        part = "12 about";
        FibrePairs x = Desks.of(3, 0, 1, 40, 1, 2, 30, 2, 0, 100);
        due("request", x.request(2, 0, true), 0);
        due("request", x.request(0, 1, false), 1);
        int[] first = {0, 2, 0, 70, 100, 0, 0};
        int[] second = {1, 0, 1, 40, NONE, 0, 0};
        for (int what = 0; what < 7; what++) {
            due("about(0, " + what + ")", x.about(0, what), first[what]);
            due("about(1, " + what + ")", x.about(1, what), second[what]);
        }
        x.hold(9);
        x.cut(0);
        due("on its spare", x.about(0, 5), 1);
        due("on none", x.about(1, 5), 2);
        x.mend(0);
        x.clock();
        due("count", x.about(0, 6), 1);
        for (int what : new int[] {-1, 7, MIN_VALUE, MAX_VALUE}) {
            refused("about(0, " + what + ")", ARGUMENT, () -> x.about(0, what));
            refused("about(2, " + what + ")", OUT, () -> x.about(2, what));
        }
        for (int id : new int[] {-1, 2, 12, MIN_VALUE, MAX_VALUE}) {
            refused("about(" + id + ", 0)", OUT, () -> x.about(id, 0));
        }
    }

    private static void user() {
        part = "13 user";
        FibrePairs x = Desks.of(2, 0, 1, 1, 0, 1, 2, 0, 1, 3);
        due("request", x.request(0, 1, true), 0);
        due("request", x.request(0, 1, true), 1);
        due("request", x.request(0, 1, false), 2);
        int[][] want = {{0, 1, NONE, NONE}, {0, 1, NONE, NONE}, {2, NONE, NONE, NONE}};
        for (int fibre = 0; fibre < 3; fibre++) {
            for (int wavelength = 0; wavelength < 4; wavelength++) {
                due("user(" + fibre + ", " + wavelength + ")", x.user(fibre, wavelength), want[fibre][wavelength]);
            }
        }
        for (int bad : new int[] {-1, 4, 32, MIN_VALUE, MAX_VALUE}) {
            refused("user(0, " + bad + ")", OUT, () -> x.user(0, bad));
            refused("user(" + bad + ", 0)", OUT, () -> x.user(bad, 0));
        }
        refused("user(3, 0)", OUT, () -> x.user(3, 0));
    }

    private static void move() {
        part = "14 move";
        FibrePairs x = Desks.of(2, 0, 1, 1, 0, 1, 2, 0, 1, 3);
        due("request", x.request(0, 1, true), 0);
        due("request", x.request(0, 1, true), 1);
        x.hold(9);
        x.cut(0);
        due("on its spare", x.about(0, 5), 1);
        due("no wavelength 1, where only 2 is free", x.move(0), 2);
        due("wavelength", x.about(0, 0), 2);
        duePath(x, 0, false, 1);
        duePath(x, 0, true, 2);
        due("on its working path", x.about(0, 5), 0);
        due("the old fibres are free", x.user(0, 0), NONE);
        due("the old fibres are free", x.user(1, 0), NONE);
        due("the new ones are used", x.user(1, 2), 0);
        due("the new ones are used", x.user(2, 2), 0);
        x.mend(0);
        x.clock();
        due("count", x.about(1, 6), 1);
        due("up from 1", x.move(1), 3);
        due("count", x.about(1, 6), 0);
        due("on", x.about(1, 5), 0);
        due("up from 3 is none", x.move(1), NONE);
        due("up from 2 is none", x.move(0), NONE);
        due("all stays", x.about(0, 0), 2);
        duePath(x, 0, false, 1);
        moveOfUnprotected();
        moveThatStays();
        for (int id : new int[] {-1, 2, 12, MIN_VALUE, MAX_VALUE}) {
            refused("move(" + id + ")", OUT, () -> x.move(id));
        }
    }

    private static void moveOfUnprotected() {
        FibrePairs x = Desks.of(2, 0, 1, 1, 0, 1, 2);
        due("request", x.request(1, 0, false), 0);
        for (int wavelength = 1; wavelength < 4; wavelength++) {
            due("move", x.move(0), wavelength);
        }
        due("move", x.move(0), NONE);
        due("wavelength", x.about(0, 0), 3);
        due("a", x.about(0, 1), 1);
        due("b", x.about(0, 2), 0);
        duePath(x, 0, false, 0);
        due("spare", x.about(0, 4), NONE);
        due("free below", x.request(0, 1, true), 1);
        due("its wavelength", x.about(1, 0), 0);
    }

    private static void moveThatStays() {
        FibrePairs x = Desks.guarded();
        x.hold(9);
        x.cut(0);
        x.mend(0);
        x.clock();
        x.lock(1, true);
        due("no pair: none", x.move(0), NONE);
        due("wavelength", x.about(0, 0), 0);
        due("on", x.about(0, 5), 1);
        due("count", x.about(0, 6), 1);
        duePath(x, 0, false, 0);
        duePath(x, 0, true, 1);
    }

    private static void fits() {
        part = "15 fits";
        FibrePairs x = Desks.of(3, 0, 1, 1, 0, 1, 1, 1, 2, 1);
        due("fits(0, 1)", x.fits(0, 1), 4);
        due("fits(1, 0)", x.fits(1, 0), 4);
        due("fits(0, 2)", x.fits(0, 2), 0);
        due("fits(1, 2)", x.fits(1, 2), 0);
        due("request", x.request(0, 1, false), 0);
        due("fits(0, 1)", x.fits(0, 1), 3);
        due("request", x.request(0, 1, true), 1);
        due("fits(0, 1)", x.fits(0, 1), 2);
        x.cut(0);
        due("fits(0, 1)", x.fits(0, 1), 0);
        x.mend(0);
        due("fibre", x.fibre(2, 0, 1), 3);
        due("fits(0, 1), the first wavelength too", x.fits(0, 1), 3);
        due("fits(0, 2)", x.fits(0, 2), 3);
        x.lock(3, true);
        due("fits(0, 2)", x.fits(0, 2), 0);
        // A pair is there, though none has the shortest path.
        due("fits", Desks.of(4, 0, 1, 1, 1, 2, 1, 2, 3, 1, 0, 2, 5, 1, 3, 4).fits(0, 3), 4);
        refused("fits(-1, 0)", OUT, () -> x.fits(-1, 0));
        refused("fits(0, 3)", OUT, () -> x.fits(0, 3));
        refused("fits(3, 3)", OUT, () -> x.fits(3, 3));
        refused("fits(2, 2)", ARGUMENT, () -> x.fits(2, 2));
    }

    private static void bridge() {
        part = "16 bridge";
        // Fibres 1 and 3 are needed from 0 to 3, between them a round of 0 and 2.
        FibrePairs x = Desks.of(5, 1, 2, 1, 2, 3, 1, 1, 2, 1, 0, 1, 1);
        due("bridge(0, 3, 0)", x.bridge(0, 3, 0), 1);
        due("bridge(3, 0, 0)", x.bridge(3, 0, 0), 1);
        due("bridge(0, 2, 0)", x.bridge(0, 2, 0), 3);
        due("bridge(1, 2, 0)", x.bridge(1, 2, 0), FITS);
        due("bridge(0, 4, 0)", x.bridge(0, 4, 0), NONE);
        due("request", x.request(1, 2, false), 0);
        due("bridge(0, 3, 0)", x.bridge(0, 3, 0), 1);
        due("bridge(1, 2, 0)", x.bridge(1, 2, 0), 2);
        due("bridge(1, 2, 1)", x.bridge(1, 2, 1), FITS);
        x.cut(2);
        due("bridge(0, 3, 0)", x.bridge(0, 3, 0), NONE);
        due("bridge(0, 3, 3)", x.bridge(0, 3, 3), 0);
        x.lock(0, true);
        due("bridge(0, 3, 3)", x.bridge(0, 3, 3), NONE);
        // The shortest path has no second one, but a pair is there.
        due("bridge", Desks.of(4, 0, 1, 1, 1, 2, 1, 2, 3, 1, 0, 2, 5, 1, 3, 4).bridge(0, 3, 2), FITS);
        for (int bad : new int[] {-1, 4, MIN_VALUE, MAX_VALUE}) {
            refused("bridge(0, 1, " + bad + ")", OUT, () -> x.bridge(0, 1, bad));
            refused("bridge(1, 1, " + bad + ")", OUT, () -> x.bridge(1, 1, bad));
        }
        refused("bridge(0, 5, 0)", OUT, () -> x.bridge(0, 5, 0));
        refused("bridge(-1, 0, 0)", OUT, () -> x.bridge(-1, 0, 0));
        refused("bridge(5, 5, 0)", OUT, () -> x.bridge(5, 5, 0));
        refused("bridge(1, 1, 0)", ARGUMENT, () -> x.bridge(1, 1, 0));
    }

    private static void exposed() {
        part = "17 exposed";
        FibrePairs x = Desks.guarded();
        due("request", x.request(0, 1, true), 1);
        due("request", x.request(0, 1, false), 2);
        due("exposed", x.exposed(), 0);
        x.cut(0);
        due("one path each is cut", x.exposed(), 0);
        due("not protected: on none", x.about(2, 5), 2);
        x.cut(1);
        due("both paths are cut", x.exposed(), 2);
        x.release(1);
        due("one is released", x.exposed(), 1);
        x.mend(1);
        due("the spare is mended", x.exposed(), 0);
    }

    private static void count() {
        part = "18 count";
        FibrePairs x = Desks.of(5, 0, 1, 1, 0, 1, 1, 3, 4, 1);
        dueCounts(x, 5, 3, 0, 0, 0);
        due("request", x.request(0, 1, true), 0);
        due("request", x.request(3, 4, false), 1);
        x.cut(0);
        x.cut(1);
        x.cut(2);
        x.lock(2, true);
        dueCounts(x, 5, 3, 2, 3, 1);
        x.mend(1);
        x.release(0);
        dueCounts(x, 5, 3, 1, 2, 1);
        for (int what : new int[] {-1, 5, MIN_VALUE, MAX_VALUE}) {
            refused("count(" + what + ")", ARGUMENT, () -> x.count(what));
        }
    }
}
