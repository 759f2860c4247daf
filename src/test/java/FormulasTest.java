/** Promises 7, 8, 11, 12 and 15: FORMULAS, their parts and what is proved of them. */
public final class FormulasTest {
    private static final int BAD = ScoreFormulas.BAD, STATE = ScoreFormulas.STATE, FULL = ScoreFormulas.FULL;
    private static final double INF = Double.POSITIVE_INFINITY, NAN = Double.NaN, LEAST = Double.MIN_VALUE;

    public static void main(String[] args) {
        Check check = new Check();
        places(check);
        numbers(check);
        refusals(check);
        parts(check);
        sizes(check);
        about(check);
        safe(check);
        leansAndRises(check);
        forget(check);
        check.finish("FormulasTest");
    }

    private static int make(ScoreFormulas x, int kind, int a, int b, double p, double q) {
        return x.formula(kind, a, b, Check.bits(p), Check.bits(q));
    }

    private static int whole(ScoreFormulas x, int kind, int... parts) {
        int made = make(x, kind, 0, 0, 0.5, 0.0);
        for (int part : parts) x.part(made, part);
        return made;
    }

    private static void places(Check check) {
        for (int kind = 1; kind <= 5; kind++) {
            ScoreFormulas x = new ScoreFormulas();
            for (int place : new int[] {-1, 4, Integer.MIN_VALUE, Integer.MAX_VALUE}) {
                check.due("place of kind " + kind, make(x, kind, place, 0, 0.5, 0.5), BAD);
            }
            for (int place = 0; place < 4; place++) {
                check.due("place of kind " + kind, make(x, kind, place, -7, 0.5, 0.5), place);
            }
        }
        for (int kind = 9; kind <= 13; kind++) {
            ScoreFormulas x = new ScoreFormulas();
            check.due("none told ahead, kind " + kind, make(x, kind, 0, 0, 1.0, 1.0), BAD);
            make(x, 0, 0, 0, 1.0, 0.0);
            check.due("none such, kind " + kind, make(x, kind, 1, 0, 1.0, 1.0), BAD);
            check.due("none such, kind " + kind, make(x, kind, -1, 0, 1.0, 1.0), BAD);
            check.due("none such, kind " + kind, make(x, kind, Integer.MAX_VALUE, 0, 1.0, 1.0), BAD);
            check.due("y of kind " + kind, make(x, kind, 0, 1, 1.0, 1.0), kind == 13 ? BAD : 1);
            check.due("y of kind " + kind, make(x, kind, 0, -1, 1.0, 1.0), kind == 13 ? BAD : 2);
            check.due("kind " + kind, make(x, kind, 0, 0, 1.0, 1.0), kind == 13 ? 1 : 3);
        }
        ScoreFormulas x = new ScoreFormulas();
        for (int kind : new int[] {-1, 14, Integer.MIN_VALUE, Integer.MAX_VALUE}) {
            check.due("kind " + kind, make(x, kind, 0, 0, 0.5, 0.5), BAD);
        }
        for (int kind : new int[] {0, 6, 7, 8}) {
            check.due("passed over, kind " + kind, make(x, kind, -1, 99, 0.5, NAN) >= 0 ? 0 : 1, 0);
        }
        check.due("all made", x.forget(), 4);
    }

    /** Which p and q each kind takes. */
    private static void numbers(Check check) {
        double[] all = {0.0, -0.0, LEAST, -LEAST, 0.5, 1.0, Math.nextUp(1.0), 2.0, INF, -1.0, -INF, NAN};
        for (int kind = 0; kind < 14; kind++) {
            for (double p : all) {
                for (double q : all) {
                    ScoreFormulas x = new ScoreFormulas();
                    make(x, 0, 0, 0, 1.0, 0.0);
                    int want = takes(kind, p, q) ? 1 : BAD;
                    check.due("kind " + kind + " p " + p + " q " + q, make(x, kind, 0, 0, p, q), want);
                }
            }
        }
        ScoreFormulas x = new ScoreFormulas();
        long[] nans = {-1L, 0x7ff0000000000001L, 0xfff0000000000001L};
        for (long nan : nans) check.due("any NaN", x.formula(3, 0, 0, nan, 0), BAD);
    }

    private static boolean takes(int kind, double p, double q) {
        if (kind == 3 || kind == 9) return p >= 0;
        if (kind == 4) return p >= 0 && q >= 0 && q <= 1;
        if (kind == 8) return p >= 0 && p <= 1;
        if (kind == 10 || kind == 11) return p == p && q > 0;
        return true;
    }

    private static void refusals(Check check) {
        ScoreFormulas x = new ScoreFormulas();
        for (int number = 0; number < 60; number++) check.due("formula", make(x, 6, 0, 0, 0.0, 0.0), number);
        check.due("the 61st", make(x, 6, 0, 0, 0.0, 0.0), FULL);
        check.due("the 61st, bad kind", make(x, 14, 0, 0, 0.0, 0.0), BAD);
        check.due("the 61st, bad place", make(x, 1, 4, 0, 0.0, 0.0), BAD);
        check.due("the 61st, bad p", make(x, 9, 0, 0, -1.0, 0.0), BAD);
        check.due("the 61st, bad x", make(x, 12, 60, 0, 0.0, 0.0), BAD);
        check.due("a refused one takes no part", x.part(0, 0), BAD);
        check.due("part of the last", x.part(59, 58), 1);
        check.due("part of a part", x.part(58, 0), STATE);
        check.due("part of a part, bad", x.part(58, 59), BAD);
        check.due("the 61st gave none", x.about(60, 0), BAD);
    }

    private static void parts(Check check) {
        ScoreFormulas x = new ScoreFormulas();
        check.due("no such", x.part(0, 0), BAD);
        for (int kind = 0; kind < 14; kind++) make(x, kind, 0, 0, 1.0, 1.0);
        for (int kind = 0; kind < 14; kind++) {
            ScoreFormulas one = new ScoreFormulas();
            make(one, 0, 0, 0, 1.0, 0.0);
            int whole = make(one, kind, 0, 0, 1.0, 1.0);
            check.due("part of kind " + kind, one.part(whole, 0), kind >= 6 && kind <= 8 ? 1 : BAD);
        }
        check.due("itself", x.part(6, 6), BAD);
        check.due("told behind", x.part(6, 7), BAD);
        check.due("below", x.part(6, -1), BAD);
        check.due("whole below", x.part(-1, 0), BAD);
        check.due("none such", x.part(14, 0), BAD);
        check.due("none such", x.part(6, 14), BAD);
        check.due("far", x.part(Integer.MAX_VALUE, Integer.MIN_VALUE), BAD);
        check.due("first", x.part(7, 0), 1);
        check.due("a part anew", x.part(7, 0), 2);
        check.due("another", x.part(7, 6), 3);
        check.due("the whole is a part", x.part(6, 0), STATE);
        check.due("it may be", x.part(8, 6), 1);
        for (int k = 4; k <= 8; k++) check.due("part", x.part(7, 1), k);
        check.due("a ninth", x.part(7, 1), FULL);
        int[] want = {0, 0, 6, 1, 1, 1, 1, 1};
        for (int k = 0; k < 8; k++) check.due("partOf", x.partOf(7, k), want[k]);
        check.due("partOf", x.partOf(7, 8), BAD);
        check.due("partOf", x.partOf(7, -1), BAD);
        check.due("partOf", x.partOf(0, 0), BAD);
        check.due("partOf", x.partOf(-1, 0), BAD);
        check.due("partOf", x.partOf(14, 0), BAD);
        for (int kind = 9; kind <= 12; kind++) {
            ScoreFormulas y = new ScoreFormulas();
            make(y, 6, 0, 0, 0.0, 0.0);
            make(y, 6, 0, 0, 0.0, 0.0);
            make(y, kind, 1, 0, 1.0, 1.0);
            check.due("x of kind " + kind, y.partOf(2, 0), 1);
            check.due("x alone of kind " + kind, y.partOf(2, 1), BAD);
            check.due("x is a part", y.part(1, 0), STATE);
        }
        ScoreFormulas y = new ScoreFormulas();
        for (int i = 0; i < 4; i++) make(y, 6, 0, 0, 0.0, 0.0);
        make(y, 13, 3, 2, 0.0, 0.0);
        check.due("ELSE: x", y.partOf(4, 0), 3);
        check.due("ELSE: y", y.partOf(4, 1), 2);
        check.due("ELSE: no more", y.partOf(4, 2), BAD);
        check.due("x is a part", y.part(3, 0), STATE);
        check.due("y is a part", y.part(2, 0), STATE);
        check.due("another is not", y.part(1, 0), 1);
    }

    /** SIZES up to 200 stand, 201 does not. */
    private static void sizes(Check check) {
        ScoreFormulas x = new ScoreFormulas();
        make(x, 0, 0, 0, 1.0, 0.0);
        whole(x, 6, 0, 0, 0, 0, 0, 0, 0);
        check.due("size 8", x.about(1, 2), 8);
        whole(x, 7, 1, 1, 1, 0, 0, 0, 0, 0);
        check.due("size 30", x.about(2, 2), 30);
        whole(x, 8, 2, 2, 2, 2, 2, 2, 1, 1);
        check.due("size 197", x.about(3, 2), 197);
        check.due("size 198", make(x, 9, 3, 0, 1.0, 0.0), 4);
        check.due("size 199", make(x, 12, 4, 0, 1.0, 0.0), 5);
        check.due("size 200", make(x, 11, 5, 0, 1.0, 1.0), 6);
        check.due("size 200", x.about(6, 2), 200);
        check.due("size 201", make(x, 10, 6, 0, 1.0, 1.0), FULL);
        check.due("size 201, bad", make(x, 10, 6, 0, 1.0, 0.0), BAD);
        check.due("ELSE of 200", make(x, 13, 4, 0, 0.0, 0.0), 7);
        check.due("ELSE of 201", make(x, 13, 0, 5, 0.0, 0.0), FULL);
        check.due("whole", make(x, 6, 0, 0, 0.0, 0.0), 8);
        check.due("whole of 201", x.part(8, 6), FULL);
        check.due("whole of 200", x.part(8, 5), 1);
        check.due("its size", x.about(8, 2), 200);
        check.due("whole of 201", x.part(8, 0), FULL);
        check.due("its parts", x.about(8, 1), 1);
        make(x, 6, 0, 0, 0.0, 0.0);
        make(x, 12, 8, 0, 0.0, 0.0);
        check.due("nothing changed", x.forget(), 10);
    }

    private static void about(Check check) {
        ScoreFormulas x = new ScoreFormulas();
        check.due("none", x.about(0, 0), BAD);
        for (int kind = 0; kind < 14; kind++) make(x, kind, 0, 0, 1.0, 1.0);
        for (int kind = 0; kind < 14; kind++) {
            int parts = kind < 9 ? 0 : kind < 13 ? 1 : 2;
            check.due("kind", x.about(kind, 0), kind);
            check.due("parts of kind " + kind, x.about(kind, 1), parts);
            check.due("size of kind " + kind, x.about(kind, 2), 1 + parts);
        }
        for (int what : new int[] {-1, 12, Integer.MIN_VALUE, Integer.MAX_VALUE}) check.due("what", x.about(0, what), BAD);
        for (int f : new int[] {-1, 14, Integer.MIN_VALUE, Integer.MAX_VALUE}) check.due("formula", x.about(f, 0), BAD);
    }

    private static void safe(Check check) {
        ScoreFormulas x = new ScoreFormulas();
        double[] constants = {1.0, 0.0, -0.0, INF, NAN, -LEAST, -INF};
        int[] constantSafe = {1, 1, 1, 1, 1, 0, 0};
        for (int i = 0; i < 7; i++) {
            make(x, 0, 0, 0, constants[i], 0.0);
            check.due("CONSTANT " + constants[i], x.about(i, 3), constantSafe[i]);
        }
        int safe = 0;
        int unsafe = 5;
        for (int kind = 1; kind <= 8; kind++) {
            check.due("kind " + kind, x.about(make(x, kind, 0, 0, 1.0, 1.0), 3), kind == 5 ? 0 : 1);
        }
        for (int kind = 6; kind <= 8; kind++) check.due("kind " + kind, x.about(whole(x, kind, unsafe), 3), 1);
        for (int kind = 9; kind <= 11; kind++) check.due("kind " + kind, x.about(make(x, kind, unsafe, 0, 1.0, 1.0), 3), 1);
        check.due("FLOOR", x.about(make(x, 12, safe, 0, 0.0, 0.0), 3), 1);
        check.due("FLOOR", x.about(make(x, 12, unsafe, 0, 0.0, 0.0), 3), 0);
        check.due("ELSE", x.about(make(x, 13, safe, safe, 0.0, 0.0), 3), 1);
        check.due("ELSE", x.about(make(x, 13, safe, unsafe, 0.0, 0.0), 3), 0);
        check.due("ELSE", x.about(make(x, 13, unsafe, safe, 0.0, 0.0), 3), 0);
        check.due("ELSE", x.about(make(x, 13, unsafe, unsafe, 0.0, 0.0), 3), 0);
    }

    private static void dueProofs(Check check, String what, ScoreFormulas x, int formula, String leans, String rises) {
        for (int field = 0; field < 4; field++) {
            check.due(what + " LEANS on " + field, x.about(formula, 4 + field), leans.charAt(field) - '0');
            check.due(what + " RISES with " + field, x.about(formula, 8 + field), rises.charAt(field) - '0');
        }
    }

    private static void leansAndRises(Check check) {
        ScoreFormulas x = new ScoreFormulas();
        for (int field = 0; field < 4; field++) make(x, 1 + field, field, 0, 1.0, 1.0);
        dueProofs(check, "COUNTED", x, 0, "1000", "1111");
        dueProofs(check, "ROOTED", x, 1, "0100", "1111");
        dueProofs(check, "SATURATED", x, 2, "0010", "1111");
        dueProofs(check, "NORMED", x, 3, "0001", "1111");
        int column = make(x, 5, 2, 0, 0.0, 0.0);
        int below = make(x, 0, 0, 0, -1.0, 0.0);
        dueProofs(check, "COLUMN", x, column, "0000", "1111");
        dueProofs(check, "CONSTANT", x, below, "0000", "1111");
        int near = make(x, 11, 1, 0, 1.0, 1.0);
        int decay = make(x, 10, 3, 0, 1.0, 1.0);
        dueProofs(check, "NEAR", x, near, "0100", "1011");
        dueProofs(check, "DECAY", x, decay, "0001", "1110");
        dueProofs(check, "BOOST", x, make(x, 9, 0, 0, 0.0, 0.0), "1000", "1111");
        dueProofs(check, "BOOST of NEAR", x, make(x, 9, near, 0, 0.0, 0.0), "0100", "1011");
        dueProofs(check, "FLOOR", x, make(x, 12, 2, 0, 0.0, 0.0), "0010", "1111");
        dueProofs(check, "FLOOR of DECAY", x, make(x, 12, decay, 0, 0.0, 0.0), "0001", "1110");
        dueProofs(check, "ELSE", x, make(x, 13, 0, 2, 0.0, 0.0), "1010", "0101");
        dueProofs(check, "ELSE of none", x, make(x, 13, column, below, 0.0, 0.0), "0000", "1111");
        for (int kind = 6; kind <= 8; kind++) {
            boolean product = kind == 7;
            String what = "kind " + kind;
            dueProofs(check, what, x, whole(x, kind), "0000", "1111");
            dueProofs(check, what, x, whole(x, kind, 0, 2), "1010", "1111");
            dueProofs(check, what, x, whole(x, kind, 0, near), "1100", "1011");
            dueProofs(check, what, x, whole(x, kind, near, 0, decay), "1101", "1010");
            dueProofs(check, what, x, whole(x, kind, 0, below), "1000", product ? "0111" : "1111");
            dueProofs(check, what, x, whole(x, kind, column, 3, 1), "0101", product ? "1010" : "1111");
            dueProofs(check, what, x, whole(x, kind, column, below), "0000", "1111");
        }
        int inner = whole(x, 7, 0, below);
        int floored = make(x, 12, inner, 0, 0.0, 0.0);
        dueProofs(check, "a chain", x, whole(x, 6, 1, floored), "1100", "0111");
        dueProofs(check, "FIELD again", x, whole(x, 8, floored, 0), "1000", "0111");
    }

    private static void forget(Check check) {
        ScoreFormulas x = new ScoreFormulas();
        x.tell(7, 1, 25, 10);
        x.column(7, 1, Check.bits(2.5));
        x.given(0, Check.bits(4.0));
        make(x, 6, 0, 0, 0.0, 0.0);
        make(x, 5, 0, 0, 0.0, 0.0);
        whole(x, 6, 0, 1);
        check.due("score", x.score(2, 7), 0);
        check.due("told", x.told(1), 1);
        check.due("forget", x.forget(), 3);
        check.due("told stays", x.told(1), 1);
        check.due("told stays", x.told(2), 3);
        check.due("forget again", x.forget(), 0);
        check.due("none", x.about(0, 0), BAD);
        check.due("none", x.partOf(2, 0), BAD);
        check.due("none", x.top(0, 0), BAD);
        check.due("none", x.part(2, 0), BAD);
        check.due("from 0 on", make(x, 7, 0, 0, 0.0, 0.0), 0);
        check.due("without parts", x.about(0, 1), 0);
        check.due("no part of another any more", make(x, 6, 0, 0, 0.0, 0.0), 1);
        check.due("no part of another any more", x.part(1, 0), 1);
        check.due("fresh", make(x, 1, 1, 0, 0.0, 0.0), 2);
        check.due("fresh", make(x, 5, 1, 0, 0.0, 0.0), 3);
        check.dueDouble("objects stay", x.score(2, 7), 25.0);
        check.dueDouble("objects stay", x.score(3, 7), 2.5);
        check.dueDouble("averages stay", x.average(0), 4.0);
        check.dueDouble("averages stay", x.average(1), 10.0);
    }
}
