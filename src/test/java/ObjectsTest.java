/** Promises 1 to 6 and 14: what is told of objects, AVERAGES and packed LENGTHS. */
public final class ObjectsTest {
    private static final long NAN = Check.bits(Double.NaN);
    private static final int MIN = Integer.MIN_VALUE, MAX = Integer.MAX_VALUE;

    public static void main(String[] args) {
        Check check = new Check();
        newObject(check);
        tell(check);
        column(check);
        given(check);
        average(check);
        packed(check);
        clear(check);
        check.finish("ObjectsTest");
    }

    private static void newObject(Check check) {
        ScoreFormulas x = new ScoreFormulas();
        check.due("new: about", x.about(0, 0), ScoreFormulas.BAD);
        check.due("new: forget", x.forget(), 0);
        for (int field = 0; field < 4; field++) check.due("new: average", x.average(field), NAN);
        for (int field = 0; field < 4; field++) check.due("new: formula", x.formula(1, field, 0, 0, 0), field);
        for (int column = 0; column < 4; column++) check.due("new: formula", x.formula(5, column, 0, 0, 0), 4 + column);
        for (int object = 0; object < 40; object += 3) {
            for (int f = 0; f < 8; f++) {
                check.due("new: score", x.score(f, object), 0);
                check.due("new: told 0", x.told(0), f < 4 ? 0 : 1);
            }
        }
    }

    private static void tell(Check check) {
        ScoreFormulas x = new ScoreFormulas();
        for (int field = 0; field < 4; field++) x.formula(1, field, 0, 0, 0);
        check.due("tell", x.tell(0, 0, 0, 0), 0);
        check.due("tell", x.tell(39, 3, 1000, 100000), 0);
        check.due("tell", x.tell(38, 3, 999, 99999), 0);
        check.due("tell", x.tell(39, 2, 7, 1), 0);
        int[][] bad = {{-1, 0, 1, 1}, {40, 0, 1, 1}, {0, -1, 1, 1}, {0, 4, 1, 1}, {39, 3, -1, 1}, {39, 3, 1001, 1},
            {39, 3, 1, -1}, {39, 3, 1, 100001}, {MIN, 0, 1, 1}, {MAX, 0, 1, 1}, {0, MIN, 1, 1}, {0, MAX, 1, 1},
            {39, 3, MIN, 1}, {39, 3, MAX, 1}, {39, 3, 1, MIN}, {39, 3, 1, MAX}};
        for (int[] b : bad) check.due("tell bad", x.tell(b[0], b[1], b[2], b[3]), ScoreFormulas.BAD);
        check.dueDouble("count", x.score(3, 39), 1000.0);
        check.dueDouble("count", x.score(3, 38), 999.0);
        check.dueDouble("count", x.score(2, 39), 7.0);
        check.dueDouble("count", x.score(0, 0), 0.0);
        check.dueDouble("average after bad ones", x.average(3), 4032.0);
        check.due("tell anew", x.tell(39, 3, 4, 2), 0);
        check.dueDouble("count", x.score(3, 39), 4.0);
        check.dueDouble("average", x.average(3), 2017.0);
    }

    private static void column(Check check) {
        ScoreFormulas x = new ScoreFormulas();
        for (int column = 0; column < 4; column++) x.formula(5, column, 0, 0, 0);
        double[] some = {0.0, -0.0, 1.0, -1.0, Double.MIN_VALUE, -Double.MIN_VALUE, Double.MIN_NORMAL, Double.MAX_VALUE,
            Double.POSITIVE_INFINITY, Double.NEGATIVE_INFINITY, Math.PI, 1e-310, 0x1p-1022, 0x0.fffffffffffffp-1022, 0x1p52, 0x1p53};
        for (int i = 0; i < some.length; i++) {
            check.due("column", x.column(39 - i, i % 4, Check.bits(some[i])), 0);
            check.dueDouble("column " + some[i], x.score(i % 4, 39 - i), some[i]);
            check.due("column there", x.told(0), 0);
        }
        long[] nans = {NAN, -1L, 0x7ff0000000000001L, 0xfff0000000000001L, 0x7fffffffffffffffL, 0xfff8000000000000L};
        for (long nan : nans) {
            x.column(5, 1, Check.bits(2.0));
            check.due("column NaN", x.column(5, 1, nan), 0);
            check.due("column NaN", x.score(1, 5), 0);
            check.due("column NaN is missing", x.told(0), 1);
        }
        x.column(5, 1, Check.bits(2.0));
        int[][] bad = {{-1, 0}, {40, 0}, {5, -1}, {5, 4}, {MIN, 0}, {MAX, 0}, {0, MIN}, {0, MAX}};
        for (int[] b : bad) check.due("column bad", x.column(b[0], b[1], 0L), ScoreFormulas.BAD);
        check.dueDouble("column after bad", x.score(1, 5), 2.0);
    }

    private static void given(Check check) {
        ScoreFormulas x = new ScoreFormulas();
        double[] right = {1.0, Double.MIN_VALUE, Double.MAX_VALUE, Double.POSITIVE_INFINITY, 0.5, 1e300};
        for (double average : right) {
            check.due("given", x.given(2, Check.bits(average)), 0);
            check.dueDouble("given average", x.average(2), average);
        }
        double[] wrong = {0.0, -0.0, -1.0, -Double.MIN_VALUE, Double.NEGATIVE_INFINITY};
        for (double average : wrong) {
            check.due("given bad", x.given(2, Check.bits(average)), ScoreFormulas.BAD);
            check.dueDouble("given after bad", x.average(2), 1e300);
        }
        for (int field : new int[] {-1, 4, MIN, MAX}) {
            check.due("given bad field", x.given(field, Check.bits(1.0)), ScoreFormulas.BAD);
            check.due("given bad field, NaN", x.given(field, NAN), ScoreFormulas.BAD);
        }
        x.tell(0, 2, 1, 10);
        x.tell(1, 2, 1, 20);
        check.dueDouble("given goes first", x.average(2), 1e300);
        check.due("given no more", x.given(2, NAN), 0);
        check.dueDouble("given no more", x.average(2), 15.0);
        check.due("given no more, again", x.given(2, 0xffffffffffffffffL), 0);
        check.due("of another FIELD", x.average(1), NAN);
    }

    private static void average(Check check) {
        ScoreFormulas x = new ScoreFormulas();
        for (int field : new int[] {-1, 4, MIN, MAX}) check.due("average bad", x.average(field), 0);
        x.tell(0, 1, 0, 1);
        check.dueDouble("average", x.average(1), 1.0);
        x.tell(1, 1, 0, 1);
        x.tell(2, 1, 0, 3);
        check.dueDouble("average", x.average(1), 5.0 / 3.0);
        x.tell(3, 1, 0, 67);
        check.dueDouble("average of values", x.average(1), 71.0 / 4.0);
        x.tell(3, 1, 9, 0);
        check.dueDouble("average of those not 0", x.average(1), 5.0 / 3.0);
        for (int object = 0; object < 40; object++) x.tell(object, 1, 0, 100000 - object);
        check.dueDouble("average of the greatest", x.average(1), 4032.0);
        for (int object = 0; object < 40; object++) x.tell(object, 1, 5, 0);
        check.due("average of none", x.average(1), NAN);
    }

    private static void packed(Check check) {
        ScoreFormulas x = new ScoreFormulas();
        int[][] known = {{0, 0, 0}, {31, 31, 31}, {32, 32, 32}, {63, 63, 63}, {64, 64, 64}, {65, 64, 64}, {66, 65, 66},
            {127, 95, 126}, {128, 96, 128}, {131, 96, 128}, {132, 97, 132}, {255, 127, 252}, {256, 128, 256}, {2047, 223, 2016},
            {2048, 224, 2048}, {4031, 254, 3968}, {4032, 255, 4032}, {4033, 255, 4032}, {99999, 255, 4032}, {100000, 255, 4032}};
        for (int[] k : known) {
            check.due("packed byte of " + k[0], x.packed(k[0], 0), k[1]);
            check.due("packed value of " + k[0], x.packed(k[0], 1), k[2]);
        }
        for (int length = 0; length <= 100000; length += length < 5000 ? 1 : 100) {
            if (length % 100 == 0) x = new ScoreFormulas();
            int code = 0;
            for (int v = 0; v < 256; v++) if (valueOf(v) <= length) code = v;
            check.due("packed(" + length + ", 0)", x.packed(length, 0), code);
            check.due("packed(" + length + ", 1)", x.packed(length, 1), valueOf(code));
        }
        x = new ScoreFormulas();
        int[][] bad = {{-1, 0}, {100001, 0}, {-1, 1}, {100001, 1}, {5, -1}, {5, 2}, {MIN, 0}, {MAX, 1}, {5, MIN}, {5, MAX}};
        for (int[] b : bad) check.due("packed bad", x.packed(b[0], b[1]), ScoreFormulas.BAD);
    }

    private static int valueOf(int v) {
        return v < 32 ? v : (int) ((32 + v % 32) * Math.pow(2, v / 32 - 1));
    }

    private static void clear(Check check) {
        ScoreFormulas x = new ScoreFormulas();
        x.formula(1, 3, 0, 0, 0);
        x.formula(5, 3, 0, 0, 0);
        x.formula(2, 3, 0, 0, 0);
        for (int object = 0; object < 40; object++) {
            x.tell(object, 3, 9, 50);
            x.column(object, 3, Check.bits(1.5));
        }
        x.given(0, Check.bits(3.0));
        check.dueDouble("before clear", x.score(2, 0), 3.0);
        check.due("score", x.score(1, 7), Check.bits(1.5));
        check.due("clear", x.clear(), 0);
        check.due("clear: average", x.average(3), NAN);
        check.due("clear: given", x.average(0), NAN);
        for (int object = 0; object < 40; object++) {
            check.dueDouble("clear: count", x.score(0, object), 0.0);
            check.dueDouble("clear: root", x.score(2, object), 0.0);
            check.due("clear: column", x.score(1, object), 0);
            check.due("clear: column", x.told(0), 1);
        }
        check.due("clear: told stays", x.told(1), 1);
        check.due("clear: formulas stay", x.forget(), 3);
        for (int place = 0; place < 4; place++) {
            x = new ScoreFormulas();
            x.formula(1, place, 0, 0, 0);
            x.formula(5, place, 0, 0, 0);
            x.tell(0, place, 9, 50);
            x.column(0, place, Check.bits(1.5));
            x.given(place, Check.bits(3.0));
            x.clear();
            check.dueDouble("clear: count in each FIELD", x.score(0, 0), 0.0);
            check.due("clear: each COLUMN", x.score(1, 0), 0);
            check.due("clear: each AVERAGE", x.average(place), NAN);
        }
        x.tell(4, 3, 1, 8);
        check.dueDouble("clear: average anew", x.average(3), 8.0);
        check.due("clear again", x.clear(), 0);
    }
}
