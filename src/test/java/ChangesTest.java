import java.util.List;
import java.util.function.Consumer;
import java.util.function.Supplier;

/**
 * What a call changes is what its promise says, and nothing besides: asking changes nothing, what is
 * undone leaves nothing behind, and what is done to one fibre or connection is not done to the others.
 */
public final class ChangesTest {
    private static final int NONE = FibrePairs.NONE;

    private static String part = "";

    public static void main(String[] args) {
        asking();
        answersStay();
        fibreLeavesConnections();
        requestAndRelease();
        requestLeavesTheOthers();
        releaseLeavesTheOthers();
        lockAndUnlock();
        lockLeavesTheOthers();
        cutAndMend();
        cutLeavesTheOthers();
        cutAndLockAreTwoThings();
        holdAgain();
        clockWithoutWaiting();
        moveLeavesTheOthers();
        twoDesks();
        Checks.end();
    }

    private static void due(String what, long got, long want) {
        Checks.due(part + ": " + what, got, want);
    }

    /** The calls leave the desk as it was: it answers ever after like one that had none of them. */
    private static void leaves(Supplier<FibrePairs> made, String what, Consumer<FibrePairs> calls) {
        FibrePairs changed = made.get();
        calls.accept(changed);
        Picture.same(part + ": " + what, changed, made.get());
    }

    private static void dueConnection(FibrePairs x, int id, int... about) {
        for (int what = 0; what < about.length; what++) {
            due("about(" + id + ", " + what + ")", x.about(id, what), about[what]);
        }
    }

    private static void asking() {
        part = "asking changes nothing";
        for (Supplier<FibrePairs> made : List.<Supplier<FibrePairs>>of(Desks::guarded, Desks::busy, Desks::full)) {
            leaves(made, "count", x -> {
                for (int what = 0; what < 5; what++) {
                    x.count(what);
                }
            });
            leaves(made, "exposed", FibrePairs::exposed);
            leaves(made, "fits", x -> x.fits(0, 1));
            leaves(made, "fits", x -> x.fits(1, 0));
            for (int wavelength = 0; wavelength < 4; wavelength++) {
                int w = wavelength;
                leaves(made, "bridge", x -> x.bridge(1, 0, w));
                leaves(made, "user", x -> x.user(0, w));
            }
            leaves(made, "path", x -> x.path(0, false, 0));
            leaves(made, "path", x -> x.path(0, true, 1));
            for (int what = 0; what < 7; what++) {
                int asked = what;
                leaves(made, "about", x -> x.about(0, asked));
            }
        }
    }

    private static void answersStay() {
        part = "asked twice, answered alike";
        FibrePairs x = Desks.of(4, 0, 1, 1, 1, 2, 1, 2, 3, 1, 0, 2, 5, 1, 3, 4);
        for (int times = 0; times < 3; times++) {
            due("fits(0, 3)", x.fits(0, 3), 4);
            due("bridge(0, 3, 0)", x.bridge(0, 3, 0), FibrePairs.FITS);
            due("fits(3, 0)", x.fits(3, 0), 4);
        }
        due("request", x.request(0, 3, true), 0);
        for (int times = 0; times < 3; times++) {
            due("path", x.path(0, false, 1), 4);
            due("path", x.path(0, true, 1), 2);
            due("path", x.path(0, false, 0), 0);
            due("bridge(0, 3, 0)", x.bridge(0, 3, 0), NONE);
        }
    }

    private static void fibreLeavesConnections() {
        part = "3 fibre";
        // A shorter way comes too late for those that are there.
        FibrePairs x = Desks.guarded();
        x.cut(0);
        due("fibre", x.fibre(0, 1, 1), 2);
        dueConnection(x, 0, 0, 0, 1, 1, 2, 1, 0);
        due("path", x.path(0, false, 0), 0);
        due("path", x.path(0, true, 0), 1);
        due("user of the new fibre", x.user(2, 0), NONE);
        due("cut fibres", x.count(3), 1);
        due("locked fibres", x.count(4), 0);
        due("sites", x.count(0), 2);
    }

    private static void requestAndRelease() {
        part = "5 release after 4 request";
        for (boolean protect : new boolean[] {true, false}) {
            leaves(Desks::busy, "from 0 to 1", x -> {
                due("request", x.request(0, 1, protect), 2);
                x.release(2);
            });
            leaves(Desks::guarded, "from 1 to 0", x -> {
                due("request", x.request(1, 0, protect), 1);
                x.release(1);
            });
        }
    }

    private static void requestLeavesTheOthers() {
        part = "4 request";
        FibrePairs x = Desks.busy();
        due("request", x.request(0, 1, true), 2);
        dueConnection(x, 2, 2, 0, 1, 1, 2, 0, 0);
        dueBusyOthers(x);
        dueConnection(x, 0, 0, 0, 1, 1, 2, 1, 1);
        due("cut fibres", x.count(3), 2);
        due("locked fibres", x.count(4), 2);
    }

    /** Connections 1, 3 and 4 of the busy desk. */
    private static void dueBusyOthers(FibrePairs x) {
        dueConnection(x, 1, 0, 1, 2, 3, 4, 2, 0);
        dueConnection(x, 3, 1, 3, 0, 6, 10, 0, 0);
        dueConnection(x, 4, 0, 2, 3, 5, NONE, 0, 0);
    }

    private static void releaseLeavesTheOthers() {
        part = "5 release";
        FibrePairs x = Desks.busy();
        x.release(0);
        dueBusyOthers(x);
        due("connections", x.count(2), 3);
        due("fibres", x.count(1), 7);
        due("exposed", x.exposed(), 1);
        FibrePairs y = Desks.busy();
        y.release(1);
        dueConnection(y, 0, 0, 0, 1, 1, 2, 1, 1);
        due("user of its working path", y.user(2, 0), NONE);
        due("user of its spare", y.user(3, 0), NONE);
        due("user on another wavelength", y.user(2, 1), 3);
        due("cut fibres", y.count(3), 2);
    }

    private static void lockAndUnlock() {
        part = "6 lock";
        for (int fibre = 0; fibre < 7; fibre++) {
            int f = fibre;
            boolean locked = fibre >= 5;
            leaves(Desks::busy, "to and fro", x -> {
                x.lock(f, !locked);
                x.lock(f, locked);
            });
        }
    }

    private static void lockLeavesTheOthers() {
        part = "6 lock";
        for (int locked = 0; locked < 14; locked++) {
            FibrePairs x = Desks.parallel(14);
            x.lock(locked, true);
            due("locked fibres", x.count(4), 1);
            due("cut fibres", x.count(3), 0);
            for (int id = 0; id < 12; id++) {
                due("request", x.request(0, 1, false), id);
                due("fibre of " + id, x.path(id, false, 0), id < locked ? id : id + 1);
            }
        }
    }

    private static void cutAndMend() {
        part = "8 mend after 7 cut";
        for (int unused : new int[] {4, 5, 6}) {
            leaves(Desks::busy, "fibre " + unused, x -> {
                x.cut(unused);
                x.mend(unused);
            });
        }
        leaves(Desks::guarded, "its working path, hold 0", x -> {
            x.cut(0);
            x.mend(0);
        });
        leaves(Desks::guarded, "both paths, hold 0", x -> {
            x.cut(1);
            x.cut(0);
            x.mend(1);
            x.mend(0);
        });
    }

    private static void cutLeavesTheOthers() {
        part = "7 cut";
        for (int cut = 0; cut < 14; cut++) {
            FibrePairs x = Desks.parallel(14);
            for (int id = 0; id < 7; id++) {
                due("request", x.request(0, 1, true), id);
            }
            x.cut(cut);
            due("cut fibres", x.count(3), 1);
            due("locked fibres", x.count(4), 0);
            for (int id = 0; id < 7; id++) {
                dueConnection(x, id, 0, 0, 1, 2 * id + 1, 2 * id + 2, cut == 2 * id ? 1 : 0, 0);
            }
        }
    }

    private static void cutAndLockAreTwoThings() {
        part = "Terms, a fibre may be CUT, and may be LOCKED";
        FibrePairs x = Desks.parallel(2);
        x.cut(0);
        x.lock(0, true);
        due("cut fibres", x.count(3), 1);
        due("locked fibres", x.count(4), 1);
        x.mend(0);
        due("cut fibres", x.count(3), 0);
        due("locked fibres", x.count(4), 1);
        x.cut(0);
        x.lock(0, false);
        due("cut fibres", x.count(3), 1);
        due("locked fibres", x.count(4), 0);
        x.lock(1, true);
        x.mend(0);
        due("fibre 0 alone is free", x.bridge(0, 1, 0), 0);
    }

    private static void holdAgain() {
        part = "9 hold";
        leaves(Desks::busy, "the same one", x -> x.hold(3));
        leaves(Desks::full, "the same one", x -> x.hold(2));
        leaves(Desks::busy, "a greater one and back", x -> {
            x.hold(1000);
            x.hold(3);
        });
        leaves(FibrePairs::new, "of nothing", x -> x.hold(0));
    }

    private static void clockWithoutWaiting() {
        part = "10 clock";
        leaves(FibrePairs::new, "of nothing", FibrePairs::clock);
        leaves(Desks::guarded, "on its working path", FibrePairs::clock);
        leaves(ChangesTest::cutGuarded, "on its spare, the working path being cut", FibrePairs::clock);
        FibrePairs x = Desks.busy();
        x.clock();
        dueConnection(x, 0, 0, 0, 1, 1, 2, 1, 2);
        dueBusyOthers(x);
    }

    private static FibrePairs cutGuarded() {
        FibrePairs x = Desks.guarded();
        x.hold(5);
        x.cut(0);
        return x;
    }

    private static void moveLeavesTheOthers() {
        part = "14 move";
        FibrePairs x = Desks.busy();
        due("move", x.move(0), 2);
        dueConnection(x, 0, 2, 0, 1, 1, 2, 0, 0);
        dueBusyOthers(x);
        due("connections", x.count(2), 4);
        due("cut fibres", x.count(3), 2);
        due("locked fibres", x.count(4), 2);
        due("exposed", x.exposed(), 1);
    }

    private static void twoDesks() {
        part = "two desks know nothing of each other";
        FibrePairs x = Desks.busy();
        FibrePairs y = new FibrePairs();
        FibrePairs z = Desks.full();
        due("sites", y.count(0), 2);
        due("fibres", y.count(1), 0);
        due("connections", y.count(2), 0);
        x.hold(1000);
        z.clear(3);
        due("sites", x.count(0), 4);
        due("fibres", x.count(1), 7);
        dueConnection(x, 0, 0, 0, 1, 1, 2, 1, 1);
        dueBusyOthers(x);
        x.hold(3);
        Picture.same(part, x, Desks.busy());
        Picture.same(part, y, new FibrePairs());
    }
}
