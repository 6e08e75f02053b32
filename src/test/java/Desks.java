/** Desks in the states that tests begin with; each method makes a new one, with less than 60 calls. */
final class Desks {
    private Desks() {
    }

    /** A desk with so many sites; each three numbers are a fibre's ends and length. */
    static FibrePairs of(int sites, int... fibres) {
        FibrePairs x = new FibrePairs();
        x.clear(sites);
        for (int i = 0; i < fibres.length; i += 3) {
            Checks.due("fibre of a desk", x.fibre(fibres[i], fibres[i + 1], fibres[i + 2]), i / 3);
        }
        return x;
    }

    /** Sites 0 and 1, and so many fibres of lengths 1, 2, .. between them. */
    static FibrePairs parallel(int fibres) {
        FibrePairs x = new FibrePairs();
        for (int fibre = 0; fibre < fibres; fibre++) {
            Checks.due("fibre of a desk", x.fibre(0, 1, fibre + 1), fibre);
        }
        return x;
    }

    /** Protected connection 0 from 0 to 1, working on fibre 0 and with fibre 1 as its spare. */
    static FibrePairs guarded() {
        FibrePairs x = parallel(2);
        Checks.due("request of a desk", x.request(0, 1, true), 0);
        return x;
    }

    /**
     * 4 sites, 7 fibres (2 and 3 cut, 5 and 6 locked), hold 3, and connections 0, 1, 3 and 4: 0 waits
     * on its spare with a count of 1, 1 is on none. There is something of everything, and nothing is full.
     */
    static FibrePairs busy() {
        FibrePairs x = of(4, 0, 1, 1, 0, 1, 2, 1, 2, 3, 1, 2, 4, 2, 3, 5, 0, 3, 6, 2, 3, 7);
        x.hold(3);
        Checks.due("request of a desk", x.request(0, 1, true), 0);
        Checks.due("request of a desk", x.request(1, 2, true), 1);
        Checks.due("request of a desk", x.request(0, 1, false), 2);
        Checks.due("request of a desk", x.request(3, 0, true), 3);
        Checks.due("request of a desk", x.request(2, 3, false), 4);
        x.release(2);
        x.lock(5, true);
        x.lock(6, true);
        x.cut(0);
        x.mend(0);
        x.clock();
        x.cut(2);
        x.cut(3);
        return x;
    }

    /**
     * 7 sites, 14 fibres (13 cut, 12 locked), hold 2, and 12 connections from 0 to 1 on wavelengths
     * 0 to 2: on wavelength 3 there would be room. Those that work on fibre 0 wait on their spare.
     */
    static FibrePairs full() {
        FibrePairs x = of(7, 0, 1, 1, 0, 1, 2, 0, 1, 3, 0, 1, 4, 0, 1, 5, 0, 1, 6, 0, 1, 7, 0, 1, 8,
                1, 2, 9, 2, 3, 9, 3, 4, 9, 4, 5, 9, 5, 6, 9, 6, 0, 100);
        x.hold(2);
        x.cut(13);
        x.lock(12, true);
        for (int id = 0; id < 12; id++) {
            Checks.due("request of a desk", x.request(0, 1, true), id);
        }
        x.cut(0);
        x.mend(0);
        return x;
    }
}
