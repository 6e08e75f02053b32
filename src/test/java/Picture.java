import java.util.function.LongSupplier;

/**
 * All that a desk answers, as one text, a call a line. Two desks in the same state have the same
 * picture; what no call tells at once (the hold, what is cut and locked) later calls bring out, so a
 * desk is at its end when its picture is taken.
 */
final class Picture {
    // An object is used for at most 512 calls, of which a desk of Desks has had less than 60.
    private static final int MOST_CALLS = 445;

    private final FibrePairs desk;
    private final StringBuilder text = new StringBuilder();
    private int calls;

    private Picture(FibrePairs desk) {
        this.desk = desk;
    }

    static String of(FibrePairs desk) {
        Picture picture = new Picture(desk);
        picture.counts();
        for (int id = 0; id < 12; id++) {
            picture.connection(id);
        }
        picture.users();
        picture.sites();
        picture.fibresLater();
        picture.holdLater();
        picture.newcomers();
        if (picture.calls > MOST_CALLS) {
            Checks.fail("a picture of " + picture.calls + " calls is too large");
        }
        return picture.text.toString();
    }

    /** Says the first line in which the picture of a desk is not the one that is due. */
    static void same(String what, FibrePairs got, FibrePairs want) {
        String[] gotLines = of(got).split("\n");
        String[] wantLines = of(want).split("\n");
        for (int i = 0; i < gotLines.length && i < wantLines.length; i++) {
            if (!gotLines[i].equals(wantLines[i])) {
                Checks.due(what + ", then", gotLines[i], wantLines[i]);
                return;
            }
        }
        Checks.due(what + ", lines of the picture", gotLines.length, wantLines.length);
    }

    private String add(String call, LongSupplier made) {
        calls++;
        String answer = Checks.answer(made);
        text.append(call).append(" = ").append(answer).append('\n');
        return answer;
    }

    private void counts() {
        for (int what = 0; what < 5; what++) {
            int asked = what;
            add("count(" + what + ")", () -> desk.count(asked));
        }
        add("exposed()", () -> desk.exposed());
    }

    private void connection(int id) {
        if (about(id, 0).startsWith("throws")) {
            return;
        }
        for (int what = 1; what < 7; what++) {
            about(id, what);
        }
        path(id, false);
        path(id, true);
    }

    private String about(int id, int what) {
        return add("about(" + id + ", " + what + ")", () -> desk.about(id, what));
    }

    private void path(int id, boolean spare) {
        String answer = "";
        for (int i = 0; i < 7 && !answer.equals("-1"); i++) {
            int asked = i;
            answer = add("path(" + id + ", " + spare + ", " + i + ")", () -> desk.path(id, spare, asked));
        }
    }

    private void users() {
        int fibres = desk.count(1);
        for (int fibre = 0; fibre < fibres; fibre++) {
            for (int wavelength = 0; wavelength < 4; wavelength++) {
                int f = fibre;
                int w = wavelength;
                add("user(" + f + ", " + w + ")", () -> desk.user(f, w));
            }
        }
    }

    private void sites() {
        int sites = desk.count(0);
        for (int site = 1; site < sites; site++) {
            int b = site;
            add("fits(0, " + b + ")", () -> desk.fits(0, b));
            for (int wavelength = 0; wavelength < 4; wavelength++) {
                int w = wavelength;
                add("bridge(0, " + b + ", " + w + ")", () -> desk.bridge(0, b, w));
            }
        }
    }

    private void fibresLater() {
        int fibres = desk.count(1);
        for (int fibre = 0; fibre < fibres; fibre++) {
            int f = fibre;
            add("lock(" + f + ", false)", () -> {
                desk.lock(f, false);
                return 0;
            });
            mend(f);
        }
    }

    private void mend(int fibre) {
        add("mend(" + fibre + ")", () -> {
            desk.mend(fibre);
            return 0;
        });
    }

    /** All fibres are mended here: those that wait come back when their count is the hold. */
    private void holdLater() {
        for (int ticks = 0; ticks < 4; ticks++) {
            add("about(0, 5)", () -> desk.about(0, 5));
            add("about(0, 6)", () -> desk.about(0, 6));
            add("about(11, 6)", () -> desk.about(11, 6));
            desk.clock();
            calls++;
        }
    }

    private void newcomers() {
        String first = add("fibre(0, 1, 1)", () -> desk.fibre(0, 1, 1));
        add("fibre(0, 1, 1)", () -> desk.fibre(0, 1, 1));
        String id = add("request(0, 1, true)", () -> desk.request(0, 1, true));
        if (first.startsWith("throws") || id.startsWith("throws") || id.equals("-1")) {
            return;
        }
        int added = Integer.parseInt(first);
        add("cut(" + added + ")", () -> {
            desk.cut(added);
            return 0;
        });
        connection(Integer.parseInt(id));
        mend(added);
        about(Integer.parseInt(id), 5);
    }
}
