/** Short ways to tell FORMULAS, for the tests. */
final class Build {
    static final int SUM = 6, PRODUCT = 7, BEST = 8;

    /** p and q that every kind takes. */
    static int any(ScoreFormulas x, int kind, int a, int b) {
        return of(x, kind, a, b, 1.0, 1.0);
    }

    static int of(ScoreFormulas x, int kind, int a, int b, double p, double q) {
        return x.formula(kind, a, b, Check.bits(p), Check.bits(q));
    }

    static int constant(ScoreFormulas x, double value) {
        return of(x, 0, 0, 0, value, 0.0);
    }

    static int counted(ScoreFormulas x, int field) {
        return of(x, 1, field, 0, 0.0, 0.0);
    }

    static int column(ScoreFormulas x, int column) {
        return of(x, 5, column, 0, 0.0, 0.0);
    }

    static int boost(ScoreFormulas x, double p, int a) {
        return of(x, 9, a, 0, p, 0.0);
    }

    static int floor(ScoreFormulas x, int a) {
        return of(x, 12, a, 0, 0.0, 0.0);
    }

    static int orElse(ScoreFormulas x, int a, int b) {
        return of(x, 13, a, b, 0.0, 0.0);
    }

    static int whole(ScoreFormulas x, int kind, double p, int... parts) {
        int made = of(x, kind, 0, 0, p, 0.0);
        for (int part : parts) x.part(made, part);
        return made;
    }

    static int sum(ScoreFormulas x, int... parts) {
        return whole(x, SUM, 0.0, parts);
    }

    /** A whole whose parts are CONSTANTS, told just before it. */
    static int wholeOf(ScoreFormulas x, int kind, double p, double... values) {
        int[] parts = new int[values.length];
        for (int k = 0; k < values.length; k++) parts[k] = constant(x, values[k]);
        return whole(x, kind, p, parts);
    }

    /** Tells seven FORMULAS with the SIZES 1, 8, 30, 197, 198, 199 and 200: the answer is the number of the last. */
    static int upToGreatestSize(ScoreFormulas x) {
        int one = constant(x, 1.0);
        int eight = sum(x, one, one, one, one, one, one, one);
        int thirty = sum(x, eight, eight, eight, one, one, one, one, one);
        int last = sum(x, thirty, thirty, thirty, thirty, thirty, thirty, eight, eight);
        for (int size = 198; size <= 200; size++) last = floor(x, last);
        return last;
    }
}
