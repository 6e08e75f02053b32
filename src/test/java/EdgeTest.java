import static java.lang.Integer.MAX_VALUE;
import static java.lang.Integer.MIN_VALUE;

/**
 * The edges of what is allowed: the document's limits reached exactly, the sentences that say when
 * NONE or FITS is answered, and the values at which an answer turns.
 */
public final class EdgeTest {
    private static final int NONE = FibrePairs.NONE;
    private static final int FITS = FibrePairs.FITS;

    private static String part = "";

    public static void main(String[] args) {
        newObjectIsLikeCleared();
        clearLeavesNothing();
        clearEndsTheHold();
        fibreNumbers();
        lengthBeforeList();
        listsAtBothEnds();
        pathsOfTheMostSites();
        noSiteTwice();
        requestNone();
        requestLastWavelength();
        requestNumbers();
        requestAtFirst();
        releaseOfTheOuterOnes();
        lockLeavesConnections();
        lockedCutAndUsed();
        holdReached();
        holdOverTaken();
        holdAndLongestUse();
        clockOnlyWhileWaiting();
        sparesThatAreNotThere();
        pathNone();
        aboutSpareNone();
        userNone();
        moveUpwardsOnly();
        moveNoneLeavesAll();
        fitsFromNoneToAll();
        bridgeNone();
        bridgeFits();
        bridgeLeast();
        exposedFromNoneToAll();
        countsAtTheirMost();
        Checks.end();
    }

    private static void due(String what, long got, long want) {
        Checks.due(part + ": " + what, got, want);
    }

    private static void duePath(FibrePairs x, int id, boolean spare, int... fibres) {
        for (int i = 0; i <= fibres.length; i++) {
            int want = i < fibres.length ? fibres[i] : NONE;
            due("path(" + id + ", " + spare + ", " + i + ")", x.path(id, spare, i), want);
        }
    }

    private static void dueOnAndCount(String what, FibrePairs x, int id, int on, int count) {
        due(what + ": on", x.about(id, 5), on);
        due(what + ": count", x.about(id, 6), count);
    }

    private static void dueCounts(FibrePairs x, int... counts) {
        for (int what = 0; what < 5; what++) {
            due("count(" + what + ")", x.count(what), counts[what]);
        }
    }

    private static void clocks(FibrePairs x, int times) {
        for (int i = 0; i < times; i++) {
            x.clock();
        }
    }

    private static void newObjectIsLikeCleared() {
        part = "1 new object";
        dueCounts(new FibrePairs(), 2, 0, 0, 0, 0);
        FibrePairs x = Desks.busy();
        x.clear(2);
        Picture.same(part + " and one cleared to 2", new FibrePairs(), x);
    }

    private static void clearLeavesNothing() {
        part = "2 clear";
        for (int sites = 2; sites <= 7; sites++) {
            FibrePairs busy = Desks.busy();
            busy.clear(sites);
            dueCounts(busy, sites, 0, 0, 0, 0);
            due("exposed", busy.exposed(), 0);
            FibrePairs full = Desks.full();
            full.clear(sites);
            dueCounts(full, sites, 0, 0, 0, 0);
            FibrePairs fresh = new FibrePairs();
            fresh.clear(sites);
            Picture.same(part + "(" + sites + ") of a busy desk", busy, fresh);
            FibrePairs other = new FibrePairs();
            other.clear(sites);
            Picture.same(part + "(" + sites + ") of a full desk", full, other);
        }
    }

    private static void clearEndsTheHold() {
        part = "2 clear, hold 0";
        FibrePairs x = new FibrePairs();
        x.hold(1000);
        x.clear(2);
        due("fibre", x.fibre(0, 1, 1), 0);
        due("fibre", x.fibre(0, 1, 1), 1);
        due("request", x.request(0, 1, true), 0);
        x.cut(0);
        x.mend(0);
        dueOnAndCount("mended", x, 0, 0, 0);
    }

    private static void fibreNumbers() {
        part = "3 fibre, numbers 0 .. 13";
        FibrePairs x = Desks.of(7);
        for (int number = 0; number < 14; number++) {
            due("fibre", x.fibre(number % 6, 6, 1 + number * 7), number);
            due("count(1)", x.count(1), number + 1);
        }
        // A fibre joins its sites both ways.
        due("request", x.request(6, 1, false), 0);
        duePath(x, 0, false, 1);
        due("request", x.request(1, 6, false), 1);
        duePath(x, 1, false, 7);
    }

    private static void lengthBeforeList() {
        part = "Terms, the shortest, and only of these the best";
        // Twelve fibres of 100 before it, and it is the last one: 99 is shorter, 100 is not.
        for (int last = 99; last <= 100; last++) {
            FibrePairs x = Desks.parallel(0);
            for (int number = 0; number < 13; number++) {
                due("fibre", x.fibre(0, 1, 100), number);
            }
            due("fibre", x.fibre(1, 0, last), 13);
            due("request", x.request(0, 1, true), 0);
            duePath(x, 0, false, last == 99 ? 13 : 0);
            duePath(x, 0, true, last == 99 ? 0 : 1);
        }
        // Over six fibres of the lowest numbers, or over the last one.
        for (int last = 5; last <= 7; last++) {
            FibrePairs y = Desks.of(7, 0, 1, 1, 1, 2, 1, 2, 3, 1, 3, 4, 1, 4, 5, 1, 5, 6, 1, 0, 6, last);
            due("request", y.request(0, 6, false), 0);
            due("its first fibre", y.path(0, false, 0), last == 5 ? 6 : 0);
            due("its length", y.about(0, 3), Math.min(last, 6));
        }
    }

    private static void listsAtBothEnds() {
        part = "Terms, at the first number that differs";
        // The lists are 0 13 and 1 2: the first number decides, however great the last one is.
        FibrePairs x = Desks.of(4, 0, 1, 1, 0, 2, 1, 2, 3, 1);
        for (int number = 3; number < 13; number++) {
            due("fibre", x.fibre(0, 3, 100), number);
        }
        due("fibre", x.fibre(3, 1, 1), 13);
        due("request", x.request(0, 3, false), 0);
        duePath(x, 0, false, 0, 13);
        // Only the last number differs.
        FibrePairs y = Desks.of(4, 0, 1, 1);
        for (int number = 1; number < 12; number++) {
            due("fibre", y.fibre(0, 3, 100), number);
        }
        due("fibre", y.fibre(3, 1, 1), 12);
        due("fibre", y.fibre(1, 3, 1), 13);
        due("request", y.request(0, 3, false), 0);
        duePath(y, 0, false, 0, 12);
        y.lock(12, true);
        due("request", y.request(0, 3, false), 1);
        due("wavelength", y.about(1, 0), 0);
        duePath(y, 1, false, 1);
    }

    private static void pathsOfTheMostSites() {
        part = "Terms, paths through all 7 sites";
        FibrePairs x = Desks.of(7, 5, 6, 100, 5, 4, 100, 3, 4, 100, 3, 2, 100, 1, 2, 100, 1, 0, 100,
                0, 1, 100, 2, 1, 100, 2, 3, 100, 4, 3, 100, 4, 5, 100, 6, 5, 100);
        due("request", x.request(0, 6, true), 0);
        duePath(x, 0, false, 5, 4, 3, 2, 1, 0);
        duePath(x, 0, true, 6, 7, 8, 9, 10, 11);
        due("working length", x.about(0, 3), 600);
        due("spare length", x.about(0, 4), 600);
        due("request the other way", x.request(6, 0, true), 1);
        duePath(x, 1, false, 0, 1, 2, 3, 4, 5);
        duePath(x, 1, true, 11, 10, 9, 8, 7, 6);
    }

    private static void noSiteTwice() {
        part = "Terms, a path comes to no site twice";
        // Rounds behind the end and before the beginning are no second path.
        FibrePairs x = Desks.of(4, 0, 1, 1, 1, 2, 1, 2, 1, 1, 0, 3, 1, 3, 0, 1);
        due("request", x.request(0, 1, true), NONE);
        due("fits", x.fits(0, 1), 0);
        due("bridge", x.bridge(0, 1, 0), 0);
        // Two paths may come to the same site, each one once.
        FibrePairs y = Desks.of(3, 0, 1, 1, 1, 0, 2, 1, 2, 1, 2, 1, 2);
        due("request", y.request(0, 2, true), 0);
        duePath(y, 0, false, 0, 2);
        duePath(y, 0, true, 1, 3);
    }

    private static void requestNone() {
        part = "4 request, NONE when there is no such wavelength";
        due("no fibres", new FibrePairs().request(0, 1, false), NONE);
        due("no fibres", new FibrePairs().request(0, 1, true), NONE);
        due("one fibre, protected", Desks.parallel(1).request(0, 1, true), NONE);
        due("one fibre, not protected", Desks.parallel(1).request(0, 1, false), 0);
        due("two fibres, protected", Desks.parallel(2).request(0, 1, true), 0);
        for (boolean protect : new boolean[] {true, false}) {
            FibrePairs x = Desks.busy();
            due("no free fibres to site 2", x.request(0, 2, protect), NONE);
            Picture.same(part + " changed something", x, Desks.busy());
        }
        FibrePairs y = Desks.parallel(2);
        y.lock(0, true);
        due("one of two is locked", y.request(0, 1, true), NONE);
        due("one of two is locked, not protected", y.request(0, 1, false), 0);
        duePath(y, 0, false, 1);
        FibrePairs z = Desks.parallel(2);
        z.cut(1);
        due("one of two is cut", z.request(0, 1, true), NONE);
        due("one of two is cut, not protected", z.request(0, 1, false), 0);
        duePath(z, 0, false, 0);
    }

    private static void requestLastWavelength() {
        part = "4 request, wavelengths 0 .. 3";
        FibrePairs x = Desks.parallel(2);
        for (int wavelength = 0; wavelength < 4; wavelength++) {
            due("request", x.request(0, 1, true), wavelength);
            due("its wavelength", x.about(wavelength, 0), wavelength);
        }
        due("a pair is nowhere", x.request(0, 1, true), NONE);
        due("a path is nowhere", x.request(0, 1, false), NONE);
        for (int wavelength = 3; wavelength >= 0; wavelength--) {
            x.release(wavelength);
            due("a path is there again", x.request(0, 1, false), wavelength);
            due("its wavelength", x.about(wavelength, 0), wavelength);
            due("a pair is nowhere", x.request(0, 1, true), NONE);
        }
        for (int wavelength = 0; wavelength < 4; wavelength++) {
            due("a second path is there", x.request(0, 1, false), 4 + wavelength);
            due("on the least wavelength first", x.about(4 + wavelength, 0), wavelength);
        }
        due("a path is nowhere", x.request(0, 1, false), NONE);
    }

    private static void requestNumbers() {
        part = "4 request, the least number that is not there";
        FibrePairs x = Desks.parallel(3);
        for (int id = 0; id < 12; id++) {
            due("request", x.request(0, 1, false), id);
            due("count(2)", x.count(2), id + 1);
        }
        for (int id : new int[] {11, 0, 5}) {
            x.release(id);
        }
        due("request", x.request(0, 1, false), 0);
        due("request", x.request(0, 1, false), 5);
        due("request", x.request(0, 1, false), 11);
        x.release(3);
        due("no pair: no number is taken", x.request(0, 1, true), NONE);
        due("request", x.request(0, 1, false), 3);
        for (int id = 0; id < 12; id++) {
            if (id != 2) {
                x.release(id);
            }
        }
        for (int id : new int[] {0, 1, 3, 4}) {
            due("request beside 2", x.request(0, 1, false), id);
        }
    }

    private static void requestAtFirst() {
        part = "Terms, on and count are 0 at first";
        FibrePairs x = Desks.guarded();
        x.hold(9);
        x.cut(0);
        x.mend(0);
        x.clock();
        dueOnAndCount("the old one", x, 0, 1, 1);
        x.release(0);
        due("request", x.request(1, 0, true), 0);
        dueOnAndCount("the new one", x, 0, 0, 0);
        due("a", x.about(0, 1), 1);
        due("b", x.about(0, 2), 0);
        x.release(0);
        due("request", x.request(0, 1, false), 0);
        due("the new one has no spare", x.path(0, true, 0), NONE);
        due("user of the old spare", x.user(1, 0), NONE);
    }

    private static void releaseOfTheOuterOnes() {
        part = "5 release";
        for (int id : new int[] {0, 11}) {
            FibrePairs x = Desks.full();
            int fibre = x.path(id, false, 0);
            int wavelength = x.about(id, 0);
            due("user", x.user(fibre, wavelength), id);
            x.release(id);
            due("count(2)", x.count(2), 11);
            due("user", x.user(fibre, wavelength), NONE);
            due("it would be there again", x.request(0, 1, true), id);
            due("on the same wavelength", x.about(id, 0), wavelength);
        }
    }

    private static void lockLeavesConnections() {
        part = "6 lock, connections that use it go on";
        FibrePairs x = Desks.guarded();
        x.lock(0, true);
        x.lock(1, true);
        dueOnAndCount("both are locked", x, 0, 0, 0);
        due("exposed", x.exposed(), 0);
        duePath(x, 0, false, 0);
        duePath(x, 0, true, 1);
        due("user", x.user(1, 0), 0);
        x.cut(0);
        dueOnAndCount("it changes over to a locked fibre", x, 0, 1, 0);
        x.mend(0);
        dueOnAndCount("and back to one", x, 0, 0, 0);
        x.lock(1, false);
        dueOnAndCount("unlocked", x, 0, 0, 0);
    }

    private static void lockedCutAndUsed() {
        part = "Terms, FREE";
        FibrePairs x = Desks.guarded();
        due("used on its own wavelength alone", x.bridge(0, 1, 0), NONE);
        due("free on the next one", x.bridge(0, 1, 1), FITS);
        due("free on the last one", x.bridge(0, 1, 3), FITS);
        x.lock(0, true);
        x.cut(0);
        due("cut and locked", x.bridge(0, 1, 3), 1);
        x.mend(0);
        due("locked yet", x.bridge(0, 1, 3), 1);
        x.lock(0, false);
        due("free again", x.bridge(0, 1, 3), FITS);
        x.lock(0, true);
        x.cut(0);
        x.lock(0, false);
        due("cut yet", x.bridge(0, 1, 3), 1);
    }

    private static void holdReached() {
        part = "9 hold, the count is as much as the hold";
        for (int hold = 0; hold <= 3; hold++) {
            FibrePairs x = Desks.guarded();
            x.hold(hold);
            x.cut(0);
            x.mend(0);
            for (int count = 0; count < hold; count++) {
                dueOnAndCount("hold " + hold + ", waiting", x, 0, 1, count);
                x.clock();
            }
            dueOnAndCount("hold " + hold + ", reached", x, 0, 0, hold);
            x.clock();
            dueOnAndCount("the count stays", x, 0, 0, hold);
        }
    }

    private static void holdOverTaken() {
        part = "9 hold, the count is more than the hold";
        for (int lower = 0; lower <= 6; lower++) {
            FibrePairs x = Desks.guarded();
            x.hold(1000);
            x.cut(0);
            x.mend(0);
            clocks(x, 5);
            dueOnAndCount("waiting", x, 0, 1, 5);
            x.hold(lower);
            dueOnAndCount("hold " + lower, x, 0, lower <= 5 ? 0 : 1, 5);
            x.cut(1);
            dueOnAndCount("the spare is cut", x, 0, 0, 5);
            x.mend(1);
            dueOnAndCount("the spare is mended", x, 0, 0, 5);
            x.cut(0);
            dueOnAndCount("the working path is cut", x, 0, 1, 0);
        }
    }

    /** As many calls as an object is used for; a greater hold can't be reached in them. */
    private static void holdAndLongestUse() {
        part = "9 hold, in 512 calls";
        FibrePairs x = Desks.guarded();
        x.hold(502);
        x.cut(0);
        x.mend(0);
        clocks(x, 501);
        dueOnAndCount("call 509", x, 0, 1, 501);
        x.clock();
        dueOnAndCount("call 512", x, 0, 0, 502);
        FibrePairs y = Desks.guarded();
        y.hold(1000);
        y.cut(0);
        y.mend(0);
        clocks(y, 504);
        dueOnAndCount("hold 1000", y, 0, 1, 504);
    }

    private static void clockOnlyWhileWaiting() {
        part = "10 clock";
        FibrePairs x = Desks.guarded();
        due("request", x.request(0, 1, false), 1);
        x.hold(2);
        x.clock();
        dueOnAndCount("on its working path", x, 0, 0, 0);
        x.cut(0);
        clocks(x, 3);
        dueOnAndCount("its working path is cut", x, 0, 1, 0);
        dueOnAndCount("not protected, cut", x, 1, 2, 0);
        x.mend(0);
        dueOnAndCount("mended", x, 0, 1, 0);
        dueOnAndCount("not protected, mended", x, 1, 0, 0);
        x.clock();
        dueOnAndCount("one clock", x, 0, 1, 1);
        dueOnAndCount("not protected, one clock", x, 1, 0, 0);
        x.clock();
        dueOnAndCount("it counts, and then it is looked at", x, 0, 0, 2);
        new FibrePairs().clock();
    }

    private static void sparesThatAreNotThere() {
        part = "Terms, a spare that is not there is not whole";
        FibrePairs x = Desks.parallel(1);
        due("request", x.request(0, 1, false), 0);
        x.hold(1000);
        x.cut(0);
        dueOnAndCount("cut", x, 0, 2, 0);
        x.clock();
        x.hold(0);
        dueOnAndCount("cut yet", x, 0, 2, 0);
        x.hold(1000);
        x.mend(0);
        dueOnAndCount("mended", x, 0, 0, 0);
        // Both paths are cut: the one that is mended first is taken, whatever the hold.
        for (int first = 0; first < 2; first++) {
            FibrePairs y = Desks.guarded();
            y.hold(1);
            y.cut(first);
            y.cut(1 - first);
            dueOnAndCount("both are cut", y, 0, 2, 0);
            y.mend(first);
            dueOnAndCount("one is mended", y, 0, first, 0);
            y.mend(1 - first);
            dueOnAndCount("both are mended", y, 0, first, 0);
        }
    }

    private static void pathNone() {
        part = "11 path, NONE when there is none";
        FibrePairs x = Desks.busy();
        duePath(x, 3, false, 5);
        duePath(x, 3, true, 4, 2, 1);
        for (int i : new int[] {-1, -2, -32, 3, 4, 6, 7, 13, 14, 31, 32, 33, MIN_VALUE, MIN_VALUE + 1, MAX_VALUE}) {
            due("path(3, false, " + i + ")", x.path(3, false, i), NONE);
            due("path(3, true, " + i + ")", x.path(3, true, i), NONE);
        }
        for (int i : new int[] {-1, 0, 1, MIN_VALUE, MAX_VALUE}) {
            due("not protected: path(4, true, " + i + ")", x.path(4, true, i), NONE);
        }
        duePath(x, 4, false, 4);
        due("a cut fibre is told yet", x.path(1, false, 0), 2);
        due("a cut fibre is told yet", x.path(1, true, 0), 3);
    }

    private static void aboutSpareNone() {
        part = "12 about, NONE when it is not protected";
        FibrePairs x = Desks.busy();
        int[][] want = {{0, 0, 1, 1, 2, 1, 1}, {0, 1, 2, 3, 4, 2, 0}, {}, {1, 3, 0, 6, 10, 0, 0}, {0, 2, 3, 5, NONE, 0, 0}};
        for (int id : new int[] {0, 1, 3, 4}) {
            for (int what = 0; what < 7; what++) {
                due("about(" + id + ", " + what + ")", x.about(id, what), want[id][what]);
            }
        }
    }

    private static void userNone() {
        part = "13 user, NONE when there is none";
        FibrePairs x = Desks.busy();
        int[][] want = {{0, NONE}, {0, 3}, {1, 3}, {1, NONE}, {4, 3}, {NONE, 3}, {NONE, NONE}};
        for (int fibre = 0; fibre < 7; fibre++) {
            due("user(" + fibre + ", 0)", x.user(fibre, 0), want[fibre][0]);
            due("user(" + fibre + ", 1)", x.user(fibre, 1), want[fibre][1]);
            due("user(" + fibre + ", 2)", x.user(fibre, 2), NONE);
            due("user(" + fibre + ", 3)", x.user(fibre, 3), NONE);
        }
        FibrePairs y = Desks.full();
        due("the last connection", y.user(7, 2), 11);
        due("the last fibre", y.user(13, 0), NONE);
        due("the last wavelength", y.user(0, 3), NONE);
        due("move", y.move(0), 3);
        due("the last wavelength", y.user(0, 3), 0);
        due("the first wavelength", y.user(0, 0), NONE);
    }

    private static void moveUpwardsOnly() {
        part = "14 move, to the least higher wavelength";
        for (boolean protect : new boolean[] {true, false}) {
            FibrePairs x = Desks.parallel(2);
            due("request", x.request(0, 1, protect), 0);
            for (int wavelength = 1; wavelength < 4; wavelength++) {
                due("move", x.move(0), wavelength);
                due("about", x.about(0, 0), wavelength);
                due("user there", x.user(0, wavelength), 0);
                due("user below", x.user(0, wavelength - 1), NONE);
            }
            due("lower ones alone have room", x.move(0), NONE);
            due("about", x.about(0, 0), 3);
            due("user there", x.user(0, 3), 0);
            due("count(2)", x.count(2), 1);
        }
        FibrePairs y = Desks.parallel(2);
        due("request", y.request(0, 1, true), 0);
        due("request", y.request(0, 1, false), 1);
        due("request", y.request(0, 1, false), 2);
        due("a path, but no pair, is on wavelength 2", y.move(2), 2);
        due("the least one with a pair", y.move(0), 3);
        due("the least one with a path", y.move(1), 2);
        duePath(y, 1, false, 1);
    }

    private static void moveNoneLeavesAll() {
        part = "14 move, NONE when there is none (all stays)";
        for (int id : new int[] {1, 3}) {
            FibrePairs x = Desks.busy();
            due("move(" + id + ")", x.move(id), NONE);
            Picture.same(part + " move(" + id + ")", x, Desks.busy());
        }
        // One that waits on its spare keeps waiting where it is.
        FibrePairs x = Desks.busy();
        x.lock(0, true);
        due("move(0)", x.move(0), NONE);
        FibrePairs y = Desks.busy();
        y.lock(0, true);
        Picture.same(part + " move(0)", x, y);
        FibrePairs z = Desks.busy();
        due("with a pair it goes", z.move(0), 2);
        dueOnAndCount("with a pair it goes", z, 0, 0, 0);
        due("wavelength", z.about(0, 0), 2);
    }

    private static void fitsFromNoneToAll() {
        part = "15 fits";
        due("no fibre", Desks.parallel(0).fits(0, 1), 0);
        due("one fibre", Desks.parallel(1).fits(0, 1), 0);
        FibrePairs x = Desks.parallel(2);
        for (int used = 0; used < 4; used++) {
            due("fits, " + used + " used", x.fits(0, 1), 4 - used);
            due("request", x.request(0, 1, true), used);
        }
        due("fits, all used", x.fits(0, 1), 0);
        x.release(3);
        due("fits, the last one", x.fits(0, 1), 1);
        x.release(0);
        due("fits, the first one and the last", x.fits(1, 0), 2);
        x.lock(1, true);
        due("fits, locked", x.fits(0, 1), 0);
    }

    private static void bridgeNone() {
        part = "16 bridge, NONE when there is no path at all";
        due("no fibre", new FibrePairs().bridge(0, 1, 0), NONE);
        FibrePairs x = Desks.of(4, 0, 1, 1, 2, 3, 1);
        due("no fibre between", x.bridge(0, 3, 0), NONE);
        due("request", x.request(0, 1, false), 0);
        due("used on 0", x.bridge(0, 1, 0), NONE);
        due("free on 1", x.bridge(0, 1, 1), 0);
        due("free on 3", x.bridge(0, 1, 3), 0);
        x.lock(0, true);
        due("locked", x.bridge(0, 1, 3), NONE);
        x.cut(1);
        due("cut", x.bridge(2, 3, 3), NONE);
    }

    private static void bridgeFits() {
        part = "16 bridge, FITS when there is a pair";
        FibrePairs x = Desks.parallel(3);
        due("request", x.request(0, 1, false), 0);
        for (int wavelength = 0; wavelength < 4; wavelength++) {
            due("bridge", x.bridge(0, 1, wavelength), FITS);
        }
        due("request", x.request(0, 1, false), 1);
        due("one is left on 0", x.bridge(0, 1, 0), 2);
        due("three are left on 1", x.bridge(1, 0, 1), FITS);
        // There is a pair, though not one with the shortest path.
        FibrePairs y = Desks.of(4, 0, 1, 1, 1, 2, 1, 2, 3, 1, 0, 2, 5, 1, 3, 4);
        due("bridge", y.bridge(0, 3, 3), FITS);
        y.lock(4, true);
        due("bridge", y.bridge(0, 3, 3), 2);
    }

    private static void bridgeLeast() {
        part = "16 bridge, the least fibre";
        // Twelve fibres to site 1, and from there one, and then another one.
        FibrePairs x = Desks.of(3);
        for (int number = 0; number < 12; number++) {
            due("fibre", x.fibre(0, 1, 100), number);
        }
        due("fibre", x.fibre(1, 2, 1), 12);
        due("the last but one", x.bridge(0, 2, 0), 12);
        due("fibre", x.fibre(1, 2, 1), 13);
        due("two of them", x.bridge(0, 2, 0), FITS);
        x.cut(12);
        due("the last one", x.bridge(0, 2, 0), 13);
        due("the last one", x.bridge(2, 0, 3), 13);
        // 0 and 3 are needed and stand at both ends; 1 and 2 are not.
        FibrePairs y = Desks.of(4, 2, 3, 9, 1, 2, 1, 2, 1, 1, 0, 1, 1);
        due("the first one", y.bridge(0, 3, 0), 0);
        due("the first one", y.bridge(3, 0, 0), 0);
        due("not the first one", y.bridge(0, 2, 0), 3);
        y.lock(1, true);
        due("one more is needed", y.bridge(0, 2, 0), 2);
    }

    private static void exposedFromNoneToAll() {
        part = "17 exposed";
        FibrePairs x = Desks.parallel(6);
        for (int id = 0; id < 12; id++) {
            due("request", x.request(0, 1, true), id);
        }
        for (int pair = 0; pair < 3; pair++) {
            x.cut(2 * pair);
            due("one path of each", x.exposed(), 4 * pair);
            x.cut(2 * pair + 1);
            due("both paths of each", x.exposed(), 4 * pair + 4);
        }
        x.release(11);
        due("one less", x.exposed(), 11);
        x.mend(1);
        due("four are on their spare", x.exposed(), 7);
        FibrePairs y = Desks.parallel(1);
        due("request", y.request(0, 1, false), 0);
        y.cut(0);
        due("not protected: on none", y.about(0, 5), 2);
        due("and not exposed", y.exposed(), 0);
    }

    private static void countsAtTheirMost() {
        part = "18 count";
        FibrePairs x = Desks.full();
        x.mend(13);
        x.lock(12, false);
        for (int fibre = 0; fibre < 14; fibre++) {
            due("count(3)", x.count(3), fibre);
            due("count(4)", x.count(4), fibre);
            x.cut(fibre);
            x.lock(fibre, true);
        }
        dueCounts(x, 7, 14, 12, 14, 14);
        x.mend(13);
        x.lock(0, false);
        dueCounts(x, 7, 14, 12, 13, 13);
        x.release(0);
        dueCounts(x, 7, 14, 11, 13, 13);
    }
}
