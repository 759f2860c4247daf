/** Promises 1 to 6 and 14: each sentence that names a bound, by a test of its own. */
public final class ObjectBoundsTest {
    private static final int MIN = Integer.MIN_VALUE, MAX = Integer.MAX_VALUE;
    private static final double INF = Double.POSITIVE_INFINITY, NAN = Double.NaN, LEAST = Double.MIN_VALUE, MOST = Double.MAX_VALUE;
    /** The bits of both signs beside the endless ones: the first and the last NaN, and more. */
    private static final long[] NANS = {0x7ff0000000000001L, 0x7fffffffffffffffL, 0xfff0000000000001L, -1L, 0x7ff8000000000000L};

    private final Check check = new Check();
    private ScoreFormulas x;

    public static void main(String[] args) {
        ObjectBoundsTest test = new ObjectBoundsTest();
        test.noFormulas();
        test.allAsAtFirst();
        test.noAverage();
        test.objectsOfTheirOwn();
        test.objects();
        test.fields();
        test.columns();
        test.counts();
        test.lengths();
        test.tellAnew();
        test.columnBits();
        test.columnNan();
        test.givenAbove();
        test.givenNan();
        test.givenFirst();
        test.averageOfNone();
        test.averageOfSome();
        test.averageOfAll();
        test.averageOfValues();
        test.averageBad();
        test.packedBelow32();
        test.packedBytes();
        test.packedGreatest();
        test.packedBad();
        test.clearAll();
        test.clearLeavesFormulas();
        test.clearEmpty();
        test.clearAsNew();
        test.looking();
        test.check.finish("ObjectBoundsTest");
    }

    private void on(String sentence) {
        check.sentence(sentence);
        x = new ScoreFormulas();
    }

    private void noFormulas() {
        on("No FORMULAS");
        check.due("forget()", x.forget(), 0);
        check.due("about(0, 0)", x.about(0, 0), ScoreFormulas.BAD);
        check.due("partOf(0, 0)", x.partOf(0, 0), ScoreFormulas.BAD);
        check.due("part(0, 0)", x.part(0, 0), ScoreFormulas.BAD);
        check.due("part(1, 0)", x.part(1, 0), ScoreFormulas.BAD);
        check.due("top(0, 0)", x.top(0, 0), ScoreFormulas.BAD);
        check.due("score(0, 0)", x.score(0, 0), 0);
        for (int kind = 9; kind <= 13; kind++) check.due("x = 0 of kind " + kind, Build.any(x, kind, 0, 0), ScoreFormulas.BAD);
        check.due("the first number", Build.constant(x, 1.0), 0);
    }

    /** With an AVERAGE given and a COUNT of 0, NORMED is 0 / 0 for a LENGTH of 0, and 0.0 for each other one. */
    private void allAsAtFirst() {
        on("both 0 at first; of it and a COLUMN a double, NaN at first");
        for (int place = 0; place < 4; place++) {
            x = new ScoreFormulas();
            x.given(place, Check.bits(1.0));
            for (int kind : new int[] {1, 4, 5}) Build.any(x, kind, place, 0);
            for (int object = 0; object < 40; object++) {
                check.dueDouble("COUNT of " + object, x.score(0, object), 0.0);
                check.due("COUNT of " + object + ", told(0)", x.told(0), 0);
                check.due("LENGTH of " + object, x.score(1, object), 0);
                check.due("LENGTH of " + object + ", told(0)", x.told(0), 2);
                check.due("COLUMN of " + object, x.score(2, object), 0);
                check.due("COLUMN of " + object + ", told(0)", x.told(0), 1);
            }
        }
    }

    private void noAverage() {
        on("no AVERAGE given");
        for (int field = 0; field < 4; field++) check.dueDouble("average(" + field + ")", x.average(field), NAN);
    }

    private void objectsOfTheirOwn() {
        on("ScoreFormulas()");
        ScoreFormulas other = new ScoreFormulas();
        Build.column(other, 0);
        other.tell(0, 0, 5, 5);
        other.column(0, 0, 0L);
        other.given(1, Check.bits(2.0));
        other.score(0, 1);
        String difference = Sight.difference(Sight.of(ScoreFormulas::new), Sight.of(() -> x = new ScoreFormulas()));
        check.due("another object: " + difference, difference == null ? 0 : 1, 0);
        check.due("told(0) of another object", x.told(0), 0);
    }

    private void objects() {
        on("OBJECTS 0 .. 39");
        Build.counted(x, 0);
        Build.column(x, 0);
        for (int object : new int[] {0, 1, 38, 39}) {
            check.due("tell(" + object + ")", x.tell(object, 0, 10 + object, 0), 0);
            check.due("column(" + object + ")", x.column(object, 0, Check.bits(-object)), 0);
        }
        for (int object : new int[] {0, 1, 38, 39}) {
            check.dueDouble("COUNT of " + object, x.score(0, object), 10 + object);
            check.dueDouble("COLUMN of " + object, x.score(1, object), -object);
        }
        check.dueDouble("COUNT of 2", x.score(0, 2), 0.0);
        check.due("COLUMN of 37", x.score(1, 37), 0);
        for (int object : new int[] {-1, 40, 41, MIN, MAX}) {
            State.dueBad(check, "tell(" + object + ", 0, 1, 1)", (s, n) -> s.tell(object, 0, 1, 1));
            State.dueBad(check, "column(" + object + ", 0, 0)", (s, n) -> s.column(object, 0, 0L));
        }
    }

    private void fields() {
        on("FIELDS 0 .. 3");
        for (int field = 0; field < 4; field++) {
            Build.counted(x, field);
            check.due("tell(0, " + field + ")", x.tell(0, field, 5 + field, 0), 0);
            check.due("given(" + field + ")", x.given(field, Check.bits(1.0 + field)), 0);
        }
        for (int field = 0; field < 4; field++) {
            check.dueDouble("COUNT", x.score(field, 0), 5 + field);
            check.dueDouble("COUNT of the next object", x.score(field, 1), 0.0);
            check.dueDouble("average(" + field + ")", x.average(field), 1.0 + field);
        }
        for (int field : new int[] {-1, 4, 5, MIN, MAX}) {
            State.dueBad(check, "tell(1, " + field + ", 1, 1)", (s, n) -> s.tell(1, field, 1, 1));
            State.dueBad(check, "given(" + field + ", 1.0)", (s, n) -> s.given(field, Check.bits(1.0)));
            State.dueBad(check, "given(" + field + ", NaN)", (s, n) -> s.given(field, Check.bits(NAN)));
        }
    }

    private void columns() {
        on("COLUMNS 0 .. 3");
        for (int column = 0; column < 4; column++) {
            Build.column(x, column);
            check.due("column(0, " + column + ")", x.column(0, column, Check.bits(0.5 + column)), 0);
        }
        for (int column = 0; column < 4; column++) {
            check.dueDouble("COLUMN", x.score(column, 0), 0.5 + column);
            check.due("COLUMN of the next object", x.score(column, 1), 0);
            check.due("COLUMN of the next object, told(0)", x.told(0), 1);
        }
        for (int column : new int[] {-1, 4, 5, MIN, MAX}) {
            State.dueBad(check, "column(1, " + column + ", 0)", (s, n) -> s.column(1, column, 0L));
        }
    }

    private void counts() {
        on("COUNT (0 .. 1000)");
        Build.counted(x, 3);
        for (int count : new int[] {1000, 999, 1, 0}) {
            check.due("tell(39, 3, " + count + ", 7)", x.tell(39, 3, count, 7), 0);
            check.dueDouble("COUNT", x.score(0, 39), count);
        }
        for (int count : new int[] {-1, 1001, 1002, MIN, MAX}) {
            State.dueBad(check, "tell(39, 3, " + count + ", 7)", (s, n) -> s.tell(39, 3, count, 7));
        }
    }

    private void lengths() {
        on("LENGTH (0 .. 100000)");
        for (int length : new int[] {100000, 99999, 1}) {
            check.due("tell(39, 3, 7, " + length + ")", x.tell(39, 3, 7, length), 0);
            check.dueDouble("average(3)", x.average(3), Math.min(length, 4032));
        }
        check.due("tell(39, 3, 7, 0)", x.tell(39, 3, 7, 0), 0);
        check.dueDouble("average(3)", x.average(3), NAN);
        for (int length : new int[] {-1, 100001, 100002, MIN, MAX}) {
            State.dueBad(check, "tell(39, 3, 7, " + length + ")", (s, n) -> s.tell(39, 3, 7, length));
        }
    }

    private void tellAnew() {
        on("COUNT and LENGTH of an object and a FIELD: 0");
        Build.counted(x, 2);
        x.tell(9, 2, 1000, 4032);
        check.due("the same anew", x.tell(9, 2, 1000, 4032), 0);
        check.dueDouble("average(2)", x.average(2), 4032.0);
        check.due("another anew", x.tell(9, 2, 0, 1), 0);
        check.dueDouble("COUNT", x.score(0, 9), 0.0);
        check.dueDouble("average(2)", x.average(2), 1.0);
    }

    private void columnBits() {
        on("DOUBLES come and go as Double.doubleToLongBits tells them");
        Build.column(x, 3);
        double[] edges = {0.0, -0.0, LEAST, -LEAST, Math.nextDown(Double.MIN_NORMAL), Double.MIN_NORMAL, Math.nextUp(Double.MIN_NORMAL),
            -Double.MIN_NORMAL, Math.nextDown(1.0), 1.0, Math.nextUp(1.0), 0x1p53 - 1, 0x1p53, 0x1p53 + 2, MOST, -MOST,
            Math.nextDown(MOST), INF, -INF};
        for (double edge : edges) {
            check.due("column(0, 3, " + edge + ")", x.column(0, 3, Check.bits(edge)), 0);
            check.dueDouble("COLUMN", x.score(0, 0), edge);
            check.due("COLUMN " + edge + ", told(0)", x.told(0), 0);
        }
        x = new ScoreFormulas();
        Build.column(x, 0);
        for (int power = -1074; power <= 1023; power++) {
            if (power % 100 == 0) {
                x = new ScoreFormulas();
                Build.column(x, 0);
            }
            double two = Math.scalb(1.0, power);
            for (double near : new double[] {Math.nextDown(two), -two}) {
                x.column(0, 0, Check.bits(near));
                check.dueDouble("COLUMN " + near, x.score(0, 0), near);
            }
        }
    }

    private void columnNan() {
        on("all NaN are one");
        Build.column(x, 1);
        for (long nan : NANS) {
            x.column(7, 1, Check.bits(2.5));
            check.dueDouble("COLUMN", x.score(0, 7), 2.5);
            check.due("column(7, 1, NaN)", x.column(7, 1, nan), 0);
            check.due("COLUMN " + nan, x.score(0, 7), 0);
            check.due("COLUMN " + nan + ", told(0)", x.told(0), 1);
        }
    }

    private void givenAbove() {
        on("The AVERAGE of a FIELD is given, above 0.0; BAD: also another one");
        for (double above : new double[] {LEAST, Double.MIN_NORMAL, 1.0, 4032.0, MOST, INF}) {
            check.due("given(0, " + above + ")", x.given(0, Check.bits(above)), 0);
            check.dueDouble("average(0)", x.average(0), above);
        }
        for (double other : new double[] {0.0, -0.0, -LEAST, -1.0, -MOST, -INF}) {
            State.dueBad(check, "given(2, " + other + ")", (s, n) -> s.given(2, Check.bits(other)));
        }
    }

    private void givenNan() {
        on("NaN: it is given no more");
        check.due("given(1, NaN), none given", x.given(1, Check.bits(NAN)), 0);
        check.dueDouble("average(1)", x.average(1), NAN);
        x.given(2, Check.bits(9.0));
        for (long nan : NANS) {
            x.given(1, Check.bits(5.0));
            check.dueDouble("average(1)", x.average(1), 5.0);
            check.due("given(1, " + nan + ")", x.given(1, nan), 0);
            check.dueDouble("average(1)", x.average(1), NAN);
        }
        check.dueDouble("average(2), of another FIELD", x.average(2), 9.0);
        x.tell(4, 1, 0, 6);
        x.given(1, Check.bits(5.0));
        x.given(1, NANS[0]);
        check.dueDouble("average(1), of the LENGTHS again", x.average(1), 6.0);
    }

    private void givenFirst() {
        on("as it is given; else the sum of the values of all LENGTHS");
        x.given(3, Check.bits(0.25));
        check.dueDouble("average(3), no LENGTH that is not 0", x.average(3), 0.25);
        x.tell(0, 3, 0, 100);
        check.dueDouble("average(3)", x.average(3), 0.25);
        check.dueDouble("average(2)", x.average(2), NAN);
        x.given(3, Check.bits(0.5));
        check.dueDouble("average(3), given anew", x.average(3), 0.5);
    }

    private void averageOfNone() {
        on("0 / 0 is NaN");
        Build.any(x, 4, 2, 0);
        x.tell(0, 2, 5, 0);
        check.dueDouble("average(2), no LENGTH that is not 0", x.average(2), NAN);
        check.due("NORMED", x.score(0, 0), 0);
        check.due("NORMED, told(0)", x.told(0), 2);
        x.tell(0, 2, 5, 1);
        check.dueDouble("average(2), one", x.average(2), 1.0);
        x.tell(0, 2, 5, 0);
        check.dueDouble("average(2), none again", x.average(2), NAN);
    }

    private void averageOfSome() {
        on("how many are not 0, as doubles");
        x.tell(0, 1, 0, 1);
        x.tell(39, 1, 0, 2);
        check.dueDouble("average(1), the first and the last object", x.average(1), 1.5);
        x.tell(20, 1, 0, 0);
        check.dueDouble("average(1), a LENGTH of 0 told", x.average(1), 1.5);
        x.tell(20, 1, 0, 1);
        check.dueDouble("average(1), no whole", x.average(1), 4.0 / 3.0);
        x.tell(39, 1, 0, 0);
        check.dueDouble("average(1), without the last object", x.average(1), 1.0);
        check.dueDouble("average(0), of another FIELD", x.average(0), NAN);
    }

    private void averageOfAll() {
        on("the sum of the values of all LENGTHS");
        for (int object = 0; object < 40; object++) x.tell(object, 0, 0, 100000);
        check.dueDouble("average(0), all the greatest", x.average(0), 4032.0);
        for (int object = 0; object < 40; object++) x.tell(object, 0, 0, object + 1);
        double sum = 0.0;
        for (int length = 1; length <= 40; length++) sum += length;
        check.dueDouble("average(0), 1 to 40", x.average(0), sum / 40.0);
    }

    private void averageOfValues() {
        on("and counts as that value");
        x.tell(0, 0, 0, 65);
        check.dueDouble("average(0)", x.average(0), 64.0);
        Build.of(x, 4, 0, 0, 2.0, 1.0);
        x.tell(1, 0, 7, 127);
        check.dueDouble("average(0)", x.average(0), (64.0 + 126.0) / 2);
        check.dueDouble("NORMED", x.score(0, 1), (7.0 * 3.0) / (7.0 + 2.0 * (0.0 + 1.0 * (126.0 / 95.0))));
        x.tell(1, 0, 7, 126);
        check.dueDouble("NORMED", x.score(0, 1), (7.0 * 3.0) / (7.0 + 2.0 * (0.0 + 1.0 * (126.0 / 95.0))));
    }

    private void averageBad() {
        on("BITS of the AVERAGE. BAD: 0");
        x.given(0, Check.bits(1.0));
        x.given(3, Check.bits(2.0));
        check.dueDouble("average(0)", x.average(0), 1.0);
        check.dueDouble("average(3)", x.average(3), 2.0);
        for (int field : new int[] {-1, 4, 5, MIN, MAX}) {
            State.dueBadAsZero(check, "average(" + field + ")", (s, n) -> s.average(field));
        }
    }

    private void packedBelow32() {
        on("a byte v has the value v, if it is below 32");
        for (int length = 0; length <= 63; length++) {
            check.due("packed(" + length + ", 0)", x.packed(length, 0), length);
            check.due("packed(" + length + ", 1)", x.packed(length, 1), length);
        }
    }

    private static int valueOf(int code) {
        int value = code < 32 ? code : 32 + code % 32;
        for (int doubled = 0; doubled < code / 32 - 1; doubled++) value *= 2;
        return value;
    }

    /** Each byte by the last LENGTH in front of its value, its value, and the last LENGTH that it has. */
    private void packedBytes() {
        on("A LENGTH has the greatest byte whose value is not above it");
        for (int code = 1; code < 256; code++) {
            if (code % 64 == 0) x = new ScoreFormulas();
            int value = valueOf(code);
            int last = code < 255 ? valueOf(code + 1) - 1 : 100000;
            check.due("packed(" + (value - 1) + ", 0)", x.packed(value - 1, 0), code - 1);
            check.due("packed(" + value + ", 0)", x.packed(value, 0), code);
            check.due("packed(" + value + ", 1)", x.packed(value, 1), value);
            check.due("packed(" + last + ", 0)", x.packed(last, 0), code);
            check.due("packed(" + last + ", 1)", x.packed(last, 1), value);
        }
    }

    private void packedGreatest() {
        on("0 .. 255");
        int[][] known = {{0, 0, 0}, {1, 1, 1}, {4031, 254, 3968}, {4032, 255, 4032}, {4033, 255, 4032}, {99999, 255, 4032}, {100000, 255, 4032}};
        for (int[] k : known) {
            check.due("packed(" + k[0] + ", 0)", x.packed(k[0], 0), k[1]);
            check.due("packed(" + k[0] + ", 1)", x.packed(k[0], 1), k[2]);
        }
    }

    private void packedBad() {
        on("BAD: not 0 .. 100000");
        for (int length : new int[] {-1, 100001, 100002, MIN, MAX}) {
            State.dueBad(check, "packed(" + length + ", 0)", (s, n) -> s.packed(length, 0));
            State.dueBad(check, "packed(" + length + ", 1)", (s, n) -> s.packed(length, 1));
        }
        on("The byte (what = 0), the value (1)");
        for (int what : new int[] {-1, 2, 3, MIN, MAX}) {
            State.dueBad(check, "packed(66, " + what + ")", (s, n) -> s.packed(66, what));
        }
    }

    private void clearAll() {
        on("All objects as at first, no AVERAGE given");
        for (int place = 0; place < 4; place++) {
            x = new ScoreFormulas();
            for (int object = 0; object < 40; object++) {
                x.tell(object, place, 1000, 100000);
                x.column(object, place, 0L);
            }
            x.given(place, Check.bits(INF));
            check.due("clear()", x.clear(), 0);
            for (int kind : new int[] {1, 2, 5}) Build.any(x, kind, place, 0);
            check.dueDouble("average(" + place + ")", x.average(place), NAN);
            for (int object = 0; object < 40; object++) {
                check.dueDouble("COUNT of " + object, x.score(0, object), 0.0);
                check.dueDouble("ROOTED of " + object, x.score(1, object), 0.0);
                check.due("COLUMN of " + object, x.score(2, object), 0);
                check.due("COLUMN of " + object + ", told(0)", x.told(0), 1);
            }
            x.tell(39, place, 0, 3);
            check.dueDouble("the AVERAGE of the only LENGTH", x.average(place), 3.0);
        }
    }

    private void clearLeavesFormulas() {
        on("FORMULAS stay");
        int counted = Build.counted(x, 1);
        int inner = Build.sum(x, counted, counted);
        int outer = Build.sum(x, inner);
        x.tell(2, 1, 6, 0);
        x.score(outer, 2);
        x.clear();
        check.due("told(2), of the latest score()", x.told(2), 4);
        check.dueDouble("score", x.score(outer, 2), 0.0);
        check.due("about: parts", x.about(inner, 1), 2);
        check.due("about: SIZE", x.about(outer, 2), 4);
        check.due("partOf", x.partOf(inner, 1), counted);
        check.due("a part of another one still", x.part(inner, counted), ScoreFormulas.STATE);
        x.tell(2, 1, 7, 0);
        check.dueDouble("score, told anew", x.score(outer, 2), 14.0);
        check.due("forget()", x.forget(), 3);
    }

    private void clearEmpty() {
        on("clear(): 0");
        check.due("clear() of a new object", x.clear(), 0);
        check.due("clear() again", x.clear(), 0);
        String difference = Sight.difference(Sight.of(ScoreFormulas::new), Sight.of(() -> {
            ScoreFormulas cleared = new ScoreFormulas();
            cleared.clear();
            return cleared;
        }));
        check.due("a new object: " + difference, difference == null ? 0 : 1, 0);
    }

    private void clearAsNew() {
        on("All objects as at first");
        String difference = Sight.difference(Sight.of(ScoreFormulas::new), Sight.of(() -> {
            ScoreFormulas used = new ScoreFormulas();
            for (int object = 0; object < 40; object += 13) {
                for (int place = 0; place < 4; place++) {
                    used.tell(object, place, 3 + place, 100 * object + 1);
                    used.column(object, place, Check.bits(object));
                }
            }
            for (int field = 0; field < 4; field++) used.given(field, Check.bits(7.0));
            used.clear();
            return used;
        }));
        check.due("a cleared object: " + difference, difference == null ? 0 : 1, 0);
    }

    private void looking() {
        on("average, packed: only tell");
        State.dueToChangeNothing(check, "average(3)", (s, n) -> s.average(3));
        State.dueToChangeNothing(check, "packed(100000, 0)", (s, n) -> s.packed(100000, 0));
    }
}
