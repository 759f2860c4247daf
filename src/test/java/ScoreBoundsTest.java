/** Promises 9, 10 and 13: each sentence that names a bound, by a test of its own. */
public final class ScoreBoundsTest {
    private static final int BAD = ScoreFormulas.BAD, NONE = ScoreFormulas.NONE, MIN = Integer.MIN_VALUE, MAX = Integer.MAX_VALUE;
    private static final int MISSING = 1, NO_NUMBER = 2, BELOW = 3;
    private static final double INF = Double.POSITIVE_INFINITY, NAN = Double.NaN, LEAST = Double.MIN_VALUE, MOST = Double.MAX_VALUE;

    private final Check check = new Check();
    private ScoreFormulas x;

    public static void main(String[] args) {
        ScoreBoundsTest test = new ScoreBoundsTest();
        test.scoreBad();
        test.toldBad();
        test.toldWithout();
        test.toldLatest();
        test.toldByNothingElse();
        test.constants();
        test.countEdges();
        test.saturatedEdges();
        test.normedWithoutAverage();
        test.normedEdges();
        test.columnMissing();
        test.withoutParts();
        test.sumsInOrder();
        test.productsInOrder();
        test.bestFromTheFirst();
        test.belowZero();
        test.notBelowZero();
        test.boostEdges();
        test.decayEdges();
        test.nearEdges();
        test.floorEdges();
        test.elseEdges();
        test.failsLikewise();
        test.firstInOrder();
        test.firstNotCaught();
        test.failureBeforeOwn();
        test.asked();
        test.askedAtMost();
        test.caught();
        test.deepest();
        test.deepestOfY();
        test.topBad();
        test.topEdges();
        test.topFailing();
        test.topAlike();
        test.topBelow();
        test.looking();
        test.check.finish("ScoreBoundsTest");
    }

    private void on(String sentence) {
        check.sentence(sentence);
        x = new ScoreFormulas();
    }

    private void dueValue(String what, int formula, double want) {
        check.dueDouble(what, x.score(formula, 0), want);
        dueTold(what, 0, NONE);
    }

    private void dueFailure(String what, int formula, int why, int culprit) {
        check.due(what, x.score(formula, 0), 0L);
        dueTold(what, why, culprit);
    }

    private void dueTold(String what, int why, int culprit) {
        check.due(what + ", told(0)", x.told(0), why);
        check.due(what + ", told(1)", x.told(1), culprit);
    }

    private void dueCounts(String what, int asked, int caught, int deepest) {
        check.due(what + ", told(2)", x.told(2), asked);
        check.due(what + ", told(3)", x.told(3), caught);
        check.due(what + ", told(4)", x.told(4), deepest);
    }

    /** What NaN stands for fails with NO NUMBER, by itself. */
    private void dueReckoned(String what, int formula, double want) {
        if (Double.isNaN(want)) dueFailure(what, formula, NO_NUMBER, formula);
        else dueValue(what, formula, want);
    }

    private void scoreBad() {
        on("BITS of the VALUE by an object; 0 if it FAILS, or is BAD");
        for (int number : new int[] {-1, 60, MIN, MAX}) State.dueBadAsZero(check, "score(" + number + ", 0)", (s, n) -> s.score(number, 0));
        State.dueBadAsZero(check, "score(n, 0)", (s, n) -> s.score(n, 0));
        for (int object : new int[] {-1, 40, 41, MIN, MAX}) {
            State.dueBadAsZero(check, "score(n - 1, " + object + ")", (s, n) -> s.score(n - 1, object));
        }
        for (int number = 0; number < 60; number++) Build.constant(x, number - 7.0);
        for (int number : new int[] {0, 1, 58, 59}) {
            check.dueDouble("score(" + number + ", 0)", x.score(number, 0), number - 7.0);
            check.dueDouble("score(" + number + ", 39)", x.score(number, 39), number - 7.0);
        }
        check.due("score(60, 0)", x.score(60, 0), 0);
    }

    private void toldBad() {
        on("told: BAD");
        for (int what : new int[] {-1, 5, 6, MIN, MAX}) State.dueBad(check, "told(" + what + ")", (s, n) -> s.told(what));
    }

    private void toldWithout() {
        on("0 (1: NONE) without");
        dueTold("a new object", 0, NONE);
        dueCounts("a new object", 0, 0, 0);
        x.score(0, 0);
        Build.constant(x, 1.0);
        x.score(1, 0);
        x.score(-1, 0);
        x.score(0, 40);
        x.score(0, -1);
        x.top(0, 0);
        dueTold("BAD ones alone", 0, NONE);
        dueCounts("BAD ones alone", 0, 0, 0);
    }

    private void toldLatest() {
        on("Of the latest score() that was not BAD");
        int nan = Build.constant(x, NAN);
        int one = Build.constant(x, 1.0);
        int sum = Build.sum(x, Build.orElse(x, nan, one), nan);
        dueFailure("one that fails", sum, NO_NUMBER, nan);
        dueCounts("one that fails", 5, 1, 3);
        for (int[] bad : new int[][] {{4, 0}, {-1, 0}, {sum, 40}, {sum, -1}, {MAX, MIN}}) {
            check.due("a BAD one", x.score(bad[0], bad[1]), 0);
            dueTold("behind a BAD one", NO_NUMBER, nan);
            dueCounts("behind a BAD one", 5, 1, 3);
        }
        dueValue("one that does not", one, 1.0);
        dueCounts("one that does not", 1, 0, 1);
    }

    private void toldByNothingElse() {
        on("Of the latest score()");
        int column = Build.column(x, 0);
        int sum = Build.sum(x, column);
        dueFailure("score", sum, MISSING, column);
        x.tell(0, 0, 1, 1);
        x.column(0, 0, Check.bits(3.0));
        x.given(0, Check.bits(2.0));
        x.average(0);
        x.packed(5, 0);
        x.part(sum, Build.constant(x, 1.0));
        x.about(sum, 0);
        x.partOf(sum, 0);
        x.top(sum, 0);
        x.told(4);
        dueTold("behind other calls", MISSING, column);
        dueCounts("behind other calls", 2, 0, 2);
        x.clear();
        dueTold("behind clear()", MISSING, column);
        dueCounts("behind clear()", 2, 0, 2);
        x.forget();
        dueTold("behind forget()", MISSING, column);
        dueCounts("behind forget()", 2, 0, 2);
    }

    private void constants() {
        on("0 CONSTANT: p");
        for (double p : new double[] {0.0, -0.0, LEAST, -LEAST, MOST, -MOST, INF, -INF, NAN}) {
            dueReckoned("CONSTANT " + p, Build.constant(x, p), p);
            dueCounts("CONSTANT " + p, 1, 0, 1);
        }
    }

    private void countEdges() {
        on("1 COUNTED x: F. 2 ROOTED x: sqrt (F)");
        Build.counted(x, 3);
        Build.any(x, 2, 3, 0);
        for (int count : new int[] {0, 1, 2, 3, 4, 5, 8, 9, 10, 99, 100, 101, 255, 256, 257, 899, 900, 901, 960, 961, 962, 999, 1000}) {
            x.tell(0, 3, count, 0);
            x.tell(39, 3, 1000 - count, 0);
            dueValue("COUNTED", 0, count);
            dueValue("ROOTED", 1, Math.sqrt(count));
            check.dueDouble("COUNTED, the last object", x.score(0, 39), 1000 - count);
            check.dueDouble("ROOTED, the last object", x.score(1, 39), Math.sqrt(1000 - count));
        }
    }

    private void saturatedEdges() {
        on("3 SATURATED x: F / (F + p)");
        double[] ps = {0.0, -0.0, LEAST, 1.0, MOST, INF};
        for (double p : ps) Build.of(x, 3, 0, 0, p, 0.0);
        for (int count : new int[] {0, 1, 1000}) {
            x.tell(0, 0, count, 0);
            for (int f = 0; f < ps.length; f++) dueReckoned("F " + count + ", p " + ps[f], f, count / (count + ps[f]));
        }
    }

    private void normedWithoutAverage() {
        on("4 NORMED x, A the AVERAGE (NaN)");
        double[][] pq = {{1.0, 1.0}, {0.0, 1.0}, {1.0, 0.0}, {0.0, 0.0}, {INF, 0.5}};
        for (double[] of : pq) Build.of(x, 4, 1, 0, of[0], of[1]);
        x.tell(0, 1, 5, 0);
        x.tell(0, 0, 5, 7);
        for (int f = 0; f < pq.length; f++) dueFailure("no LENGTH that is not 0", f, NO_NUMBER, f);
        x.tell(39, 1, 0, 1);
        dueValue("one of another object", 0, (5.0 * 2.0) / (5.0 + 1.0 * (0.0 + 1.0 * (0.0 / 1.0))));
        dueValue("p 0", 1, 5.0 / 5.0);
    }

    private void normedEdges() {
        on("4 NORMED x: (F * (p + 1)) / (F + p * ((1 - q) + q * (L / A)))");
        double[] ps = {0.0, -0.0, LEAST, 1.2, MOST, INF};
        double[] qs = {0.0, -0.0, LEAST, 0.75, 1.0};
        for (double a : new double[] {LEAST, 1.0, 100.0, MOST, INF}) {
            for (int[] told : new int[][] {{0, 0}, {1, 0}, {0, 4032}, {1000, 100000}}) {
                x = new ScoreFormulas();
                for (double p : ps) for (double q : qs) Build.of(x, 4, 2, 0, p, q);
                x.tell(0, 2, told[0], told[1]);
                x.given(2, Check.bits(a));
                double f = told[0];
                double l = Math.min(told[1], 4032);
                for (int made = 0; made < ps.length * qs.length; made++) {
                    double p = ps[made / qs.length];
                    double q = qs[made % qs.length];
                    double want = (f * (p + 1)) / (f + p * ((1 - q) + q * (l / a)));
                    dueReckoned("F " + f + ", L " + l + ", A " + a + ", p " + p + ", q " + q, made, want);
                }
            }
        }
    }

    private void columnMissing() {
        on("MISSING (1): a COLUMN that is NaN");
        int column = Build.column(x, 3);
        dueFailure("at first", column, MISSING, column);
        dueCounts("at first", 1, 0, 1);
        for (double value : new double[] {0.0, -0.0, -MOST, INF, -INF}) {
            x.column(0, 3, Check.bits(value));
            dueValue("COLUMN " + value, column, value);
        }
        x.column(0, 3, Check.bits(NAN));
        dueFailure("NaN anew", column, MISSING, column);
    }

    private void withoutParts() {
        on("SUM: from 0.0 on. PRODUCT: from 1.0 on. BEST: without parts 0.0");
        dueValue("SUM", Build.whole(x, Build.SUM, 0.0), 0.0);
        dueCounts("SUM", 1, 0, 1);
        dueValue("PRODUCT", Build.whole(x, Build.PRODUCT, 0.0), 1.0);
        dueCounts("PRODUCT", 1, 0, 1);
        for (double p : new double[] {0.0, -0.0, 0.5, 1.0}) {
            dueValue("BEST, p " + p, Build.whole(x, Build.BEST, p), 0.0);
            dueCounts("BEST, p " + p, 1, 0, 1);
        }
        dueValue("a SUM of them", Build.sum(x, 0, 1, 2), 1.0);
        dueValue("a PRODUCT of them", Build.whole(x, Build.PRODUCT, 0.0, 1, 1, 2), 0.0);
    }

    private void sumsInOrder() {
        on("6 SUM: from 0.0 on all its parts added, in order");
        dueValue("one of -0.0", Build.wholeOf(x, Build.SUM, 0.0, -0.0), 0.0);
        dueValue("8 parts", Build.wholeOf(x, Build.SUM, 0.0, 0.1, 0.2, 0.3, 0.4, 0.5, 0.6, 0.7, 0.8),
            0.0 + 0.1 + 0.2 + 0.3 + 0.4 + 0.5 + 0.6 + 0.7 + 0.8);
        dueValue("one by one", Build.wholeOf(x, Build.SUM, 0.0, 1e16, 1.0, 1.0), (1e16 + 1.0) + 1.0);
        dueValue("in another order", Build.wholeOf(x, Build.SUM, 0.0, 1.0, 1.0, 1e16), (1.0 + 1.0) + 1e16);
        int tenth = Build.constant(x, 0.1);
        int fifth = Build.constant(x, 0.2);
        int inner = Build.sum(x, tenth, fifth, tenth);
        double sum = 0.1 + 0.2 + 0.1;
        dueValue("wholes between", Build.sum(x, fifth, inner, tenth, inner, fifth), 0.2 + sum + 0.1 + sum + 0.2);
        dueValue("over the greatest and back", Build.wholeOf(x, Build.SUM, 0.0, MOST, MOST, -MOST), INF);
        int lost = Build.wholeOf(x, Build.SUM, 0.0, INF, -INF);
        dueFailure("of both endless ones", lost, NO_NUMBER, lost);
    }

    private void productsInOrder() {
        on("7 PRODUCT: from 1.0 on all multiplied");
        dueValue("one of -0.0", Build.wholeOf(x, Build.PRODUCT, 0.0, -0.0), -0.0);
        dueValue("8 parts", Build.wholeOf(x, Build.PRODUCT, 0.0, 0.1, 0.2, 0.3, 0.4, 0.5, 0.6, 0.7, 0.8),
            1.0 * 0.1 * 0.2 * 0.3 * 0.4 * 0.5 * 0.6 * 0.7 * 0.8);
        dueValue("over the greatest and back", Build.wholeOf(x, Build.PRODUCT, 0.0, MOST, 2.0, 0.5), INF);
        dueValue("under the least and back", Build.wholeOf(x, Build.PRODUCT, 0.0, LEAST, 0.5, 2.0), 0.0);
        int lost = Build.wholeOf(x, Build.PRODUCT, 0.0, INF, 0.0);
        dueFailure("of an endless one and 0.0", lost, NO_NUMBER, lost);
    }

    private void bestFromTheFirst() {
        on("8 BEST: m the greatest of its parts (by max, from the first one on), s the sum of all: m + p * (s - m)");
        dueValue("one", Build.wholeOf(x, Build.BEST, 1.0, 3.0), 3.0);
        dueValue("the first", Build.wholeOf(x, Build.BEST, 0.0, 3.0, 1.0, 2.0), 3.0);
        dueValue("the last", Build.wholeOf(x, Build.BEST, 0.0, 1.0, 2.0, 3.0), 3.0);
        dueValue("all, p 1", Build.wholeOf(x, Build.BEST, 1.0, 1.0, 2.0, 3.0), 6.0);
        dueValue("half", Build.wholeOf(x, Build.BEST, 0.5, 1.0, 2.0, 3.0), 4.5);
        int below = Build.wholeOf(x, Build.BEST, 0.0, -3.0, -1.0);
        dueFailure("all below 0, not from 0.0 on", below, BELOW, below);
        dueValue("max of both zeros", Build.wholeOf(x, Build.BEST, 0.0, -0.0, 0.0, -1.0), 0.0);
        dueValue("max of both zeros", Build.wholeOf(x, Build.BEST, 0.0, 0.0, -0.0, -1.0), 0.0);
        x = new ScoreFormulas();
        dueValue("-0.0, p -0.0", Build.wholeOf(x, Build.BEST, -0.0, -0.0), -0.0 + -0.0 * (0.0 - -0.0));
        dueValue("-0.0, p 0.0", Build.wholeOf(x, Build.BEST, 0.0, -0.0), -0.0 + 0.0 * (0.0 - -0.0));
        int endless = Build.wholeOf(x, Build.BEST, 0.0, INF, 1.0);
        dueFailure("an endless one", endless, NO_NUMBER, endless);
        int least = Build.wholeOf(x, Build.BEST, 0.0, 1.0, -INF);
        dueFailure("0 * endless", least, NO_NUMBER, least);
    }

    private void belowZero() {
        on("BELOW (3): one of the kinds 6 to 9 whose VALUE is below 0");
        for (int kind = 6; kind <= 8; kind++) {
            x = new ScoreFormulas();
            for (double value : new double[] {-LEAST, -1.0, -MOST}) {
                int made = Build.wholeOf(x, kind, 0.0, value);
                dueFailure("kind " + kind + " of " + value, made, BELOW, made);
                dueCounts("kind " + kind, 2, 0, 2);
            }
        }
        x = new ScoreFormulas();
        for (double value : new double[] {-LEAST, -1.0, -MOST, -INF}) {
            int made = Build.boost(x, 1.0, Build.constant(x, value));
            dueFailure("BOOST of " + value, made, BELOW, made);
        }
        int sum = Build.wholeOf(x, Build.SUM, 0.0, -INF);
        dueFailure("SUM of -INF", sum, BELOW, sum);
        int product = Build.wholeOf(x, Build.PRODUCT, 0.0, -INF);
        dueFailure("PRODUCT of -INF", product, BELOW, product);
    }

    private void notBelowZero() {
        on("BELOW: whose VALUE is below 0 (others and zeros are not)");
        int below = Build.constant(x, -1.5);
        x.column(0, 0, Check.bits(-2.5));
        dueValue("CONSTANT", below, -1.5);
        dueValue("COLUMN", Build.column(x, 0), -2.5);
        dueValue("FLOOR", Build.floor(x, below), -2.0);
        dueValue("ELSE", Build.orElse(x, below, below), -1.5);
        int zero = Build.constant(x, -0.0);
        dueValue("PRODUCT of -0.0", Build.whole(x, Build.PRODUCT, 0.0, zero), -0.0);
        dueValue("SUM of -0.0", Build.sum(x, zero), 0.0);
        dueValue("BEST of -0.0", Build.whole(x, Build.BEST, -0.0, zero), -0.0);
        dueValue("BOOST of -0.0", Build.boost(x, 2.0, zero), -0.0);
        dueValue("BOOST by 0.0 of what is below 0", Build.boost(x, 0.0, below), -0.0);
        dueValue("a SUM that was below 0 between", Build.sum(x, below, Build.constant(x, 1.5)), 0.0);
        dueValue("a PRODUCT of two below 0", Build.whole(x, Build.PRODUCT, 0.0, below, below), 2.25);
    }

    private void boostEdges() {
        on("9 BOOST of x: p * x");
        for (double p : new double[] {0.0, -0.0, LEAST, 1.0, MOST, INF}) {
            x = new ScoreFormulas();
            for (double value : new double[] {0.0, -0.0, LEAST, 0.5, 2.0, MOST, INF}) {
                dueReckoned("p " + p + ", x " + value, Build.boost(x, p, Build.constant(x, value)), p * value);
            }
        }
    }

    private void decayEdges() {
        on("10 DECAY of x: max (0.0, (q - abs (x - p)) / q)");
        double[][] xpq = {{5.0, 5.0, 2.0}, {7.0, 5.0, 2.0}, {3.0, 5.0, 2.0}, {Math.nextDown(7.0), 5.0, 2.0}, {Math.nextUp(7.0), 5.0, 2.0},
            {Math.nextUp(3.0), 5.0, 2.0}, {Math.nextDown(3.0), 5.0, 2.0}, {6.0, 5.0, 2.0}, {4.0, 5.0, 2.0}, {LEAST, 0.0, LEAST},
            {-LEAST, 0.0, LEAST}, {0.0, 0.0, LEAST}, {-0.0, 0.0, INF}, {1.0, 0.0, INF}, {INF, 0.0, 1.0}, {-INF, 0.0, 1.0}, {INF, INF, 1.0},
            {INF, -INF, 1.0}, {1.0, INF, MOST}, {INF, 1.0, INF}, {MOST, -MOST, MOST}};
        for (double[] of : xpq) {
            int made = Build.of(x, 10, Build.constant(x, of[0]), 0, of[1], of[2]);
            double want = Math.max(0.0, (of[2] - Math.abs(of[0] - of[1])) / of[2]);
            dueReckoned("x " + of[0] + ", p " + of[1] + ", q " + of[2], made, want);
        }
    }

    private void nearEdges() {
        on("11 NEAR x: 1 / (1 + r * r), r = (x - p) / q");
        double[][] xpq = {{5.0, 5.0, 2.0}, {7.0, 5.0, 2.0}, {3.0, 5.0, 2.0}, {0.0, 0.0, LEAST}, {LEAST, 0.0, LEAST}, {1.0, 0.0, LEAST},
            {1.0, 0.0, INF}, {INF, 0.0, 1.0}, {-INF, 0.0, 1.0}, {INF, INF, 1.0}, {-INF, -INF, 1.0}, {INF, -INF, 1.0}, {INF, 0.0, INF},
            {MOST, -MOST, 1.0}, {MOST, -MOST, INF}, {1e154, 0.0, 1.0}, {1e155, 0.0, 1.0}};
        for (double[] of : xpq) {
            int made = Build.of(x, 11, Build.constant(x, of[0]), 0, of[1], of[2]);
            double r = (of[0] - of[1]) / of[2];
            dueReckoned("x " + of[0] + ", p " + of[1] + ", q " + of[2], made, 1 / (1 + r * r));
        }
    }

    private void floorEdges() {
        on("12 FLOOR of x: floor (x)");
        double[] values = {0.0, -0.0, LEAST, -LEAST, Math.nextDown(1.0), 1.0, Math.nextUp(1.0), Math.nextUp(-1.0), -1.0, Math.nextDown(-1.0),
            0x1p31 - 0.5, 0x1p31, -0x1p31 - 0.5, Math.nextDown(0x1p52), 0x1p52, -0x1p52, Math.nextUp(-0x1p52), Math.nextUp(0x1p52),
            0x1p63, -0x1p63, Math.nextUp(0x1p63), MOST, -MOST, INF, -INF};
        for (double value : values) dueValue("FLOOR of " + value, Build.floor(x, Build.constant(x, value)), Math.floor(value));
    }

    private void elseEdges() {
        on("13 ELSE x, y: x; if that FAILS, y");
        int nan = Build.constant(x, NAN);
        int column = Build.column(x, 0);
        int below = Build.wholeOf(x, Build.SUM, 0.0, -LEAST);
        int zero = Build.constant(x, -0.0);
        int endless = Build.constant(x, -INF);
        for (int failing : new int[] {nan, column, below}) {
            dueValue("x FAILS", Build.orElse(x, failing, zero), -0.0);
            dueFailure("both FAIL", Build.orElse(x, failing, nan), NO_NUMBER, nan);
            dueFailure("both FAIL", Build.orElse(x, failing, column), MISSING, column);
            dueFailure("both FAIL", Build.orElse(x, failing, below), BELOW, below);
            dueValue("y would FAIL", Build.orElse(x, zero, failing), -0.0);
            dueValue("x is endless", Build.orElse(x, endless, failing), -INF);
        }
    }

    private void failsLikewise() {
        on("What has a part that FAILS FAILS likewise, but ELSE");
        for (int why = MISSING; why <= BELOW; why++) {
            x = new ScoreFormulas();
            int failing = why == MISSING ? Build.column(x, 0) : why == NO_NUMBER ? Build.constant(x, NAN) : Build.wholeOf(x, Build.SUM, 0.0, -1.0);
            for (int kind = 6; kind <= 8; kind++) dueFailure("kind " + kind, Build.whole(x, kind, 0.0, failing), why, failing);
            for (int kind = 9; kind <= 12; kind++) dueFailure("kind " + kind, Build.any(x, kind, failing, 0), why, failing);
            dueFailure("farther out", Build.floor(x, Build.boost(x, 0.0, Build.sum(x, failing))), why, failing);
        }
    }

    private void firstInOrder() {
        on("the first one asked for, in order");
        int column = Build.column(x, 0);
        int nan = Build.constant(x, NAN);
        int below = Build.wholeOf(x, Build.SUM, 0.0, -1.0);
        int one = Build.constant(x, 1.0);
        int[][] orders = {{column, nan, below}, {nan, below, column}, {below, column, nan}};
        int[] why = {MISSING, NO_NUMBER, BELOW};
        for (int kind = 6; kind <= 8; kind++) {
            for (int i = 0; i < 3; i++) {
                int[] of = orders[i];
                dueFailure("kind " + kind, Build.whole(x, kind, 0.0, one, of[0], of[1], of[2]), why[i], of[0]);
                check.due("those behind it are not begun", x.told(2), of[0] == below ? 4 : 3);
            }
        }
        int last = Build.whole(x, Build.SUM, 0.0, one, one, one, one, one, one, one, column);
        dueFailure("the eighth", last, MISSING, column);
        check.due("all begun", x.told(2), 9);
    }

    private void firstNotCaught() {
        on("the FORMULA that FAILED first and was not caught (NONE)");
        int column = Build.column(x, 0);
        int nan = Build.constant(x, NAN);
        int one = Build.constant(x, 1.0);
        int kept = Build.orElse(x, column, one);
        dueValue("all caught", kept, 1.0);
        check.due("all caught, told(3)", x.told(3), 1);
        dueFailure("one caught, one not", Build.sum(x, kept, nan), NO_NUMBER, nan);
        dueFailure("the same caught, and not", Build.sum(x, kept, column), MISSING, column);
        dueFailure("y fails", Build.orElse(x, column, nan), NO_NUMBER, nan);
        int deep = Build.sum(x, Build.boost(x, 1.0, nan));
        dueValue("caught far out", Build.orElse(x, deep, one), 1.0);
        dueFailure("the inner one, not its wholes", deep, NO_NUMBER, nan);
        x.column(0, 0, Check.bits(4.0));
        dueValue("it fails no more", kept, 4.0);
        check.due("it fails no more, told(3)", x.told(3), 0);
    }

    private void failureBeforeOwn() {
        on("FAILS: by a part, before its own VALUE");
        int below = Build.constant(x, -1.0);
        int column = Build.column(x, 0);
        dueFailure("a SUM below 0 so far", Build.sum(x, below, column), MISSING, column);
        int endless = Build.constant(x, INF);
        int zero = Build.constant(x, 0.0);
        dueFailure("a PRODUCT of no number so far", Build.whole(x, Build.PRODUCT, 0.0, endless, zero, column), MISSING, column);
        int lost = Build.sum(x, endless, Build.constant(x, -INF), below);
        dueFailure("NaN is not below 0", lost, NO_NUMBER, lost);
    }

    private void asked() {
        on("ASKED is each FORMULA as it is begun, also those that FAIL");
        int one = Build.constant(x, 1.0);
        int nan = Build.constant(x, NAN);
        int twice = Build.sum(x, one, one);
        x.score(twice, 0);
        dueCounts("one that is a part twice", 3, 0, 2);
        x.score(Build.whole(x, Build.PRODUCT, 0.0, twice, one, twice), 0);
        dueCounts("wholes in wholes", 8, 0, 3);
        x.score(nan, 0);
        dueCounts("one that FAILS", 1, 0, 1);
        x.score(Build.sum(x, one, nan, one), 0);
        dueCounts("up to the one that FAILS", 3, 0, 2);
        x.score(Build.orElse(x, one, nan), 0);
        dueCounts("ELSE without its y", 2, 0, 2);
        x.score(Build.orElse(x, nan, one), 0);
        dueCounts("ELSE with its y", 3, 1, 2);
    }

    private void askedAtMost() {
        on("how many were ASKED (SIZE 200)");
        int last = Build.upToGreatestSize(x);
        x.score(last, 39);
        dueCounts("SIZE 200", 200, 0, 7);
        x.score(last - 1, 0);
        dueCounts("SIZE 199", 199, 0, 6);
        x.top(last, 39);
        dueCounts("behind top()", 199, 0, 6);
    }

    private void caught() {
        on("how many failures were caught");
        int nan = Build.constant(x, NAN);
        int one = Build.constant(x, 1.0);
        int kept = Build.orElse(x, nan, one);
        int both = Build.orElse(x, nan, nan);
        int twice = Build.orElse(x, both, one);
        x.score(one, 0);
        check.due("none", x.told(3), 0);
        x.score(kept, 0);
        check.due("one", x.told(3), 1);
        x.score(both, 0);
        check.due("y is not caught", x.told(3), 1);
        x.score(twice, 0);
        check.due("one within the other", x.told(3), 2);
        x.score(Build.sum(x, kept, kept, kept, kept, kept, kept, kept, kept), 0);
        check.due("eight", x.told(3), 8);
        x.score(Build.sum(x, kept, nan, kept), 0);
        check.due("those in front of one that is not", x.told(3), 1);
        x.score(Build.orElse(x, Build.sum(x, nan, nan), one), 0);
        check.due("the parts behind it fail no more", x.told(3), 1);
    }

    private void deepest() {
        on("how deep the deepest ASKED one lay (the FORMULA itself 1, its parts 2, ..)");
        Build.constant(x, 2.0);
        for (int f = 1; f < 60; f++) Build.floor(x, f - 1);
        for (int f : new int[] {0, 1, 2, 58, 59}) {
            dueValue("a chain", f, 2.0);
            dueCounts("a chain", f + 1, 0, f + 1);
        }
        x.forget();
        int one = Build.constant(x, 1.0);
        int deep = Build.floor(x, Build.floor(x, one));
        x.score(Build.sum(x, deep, one), 0);
        check.due("the first part is deepest", x.told(4), 4);
        x.score(Build.sum(x, one, deep), 0);
        check.due("the last part is deepest", x.told(4), 4);
        int nan = Build.constant(x, NAN);
        x.score(Build.sum(x, nan, deep), 0);
        check.due("what is not begun does not lie", x.told(4), 2);
    }

    private void deepestOfY() {
        on("how deep the deepest ASKED one lay (ELSE)");
        int nan = Build.constant(x, NAN);
        int one = Build.constant(x, 1.0);
        int deep = Build.floor(x, Build.floor(x, one));
        int failing = Build.floor(x, Build.floor(x, nan));
        x.score(Build.orElse(x, nan, one), 0);
        check.due("both alike", x.told(4), 2);
        x.score(Build.orElse(x, nan, deep), 0);
        check.due("y is deeper", x.told(4), 4);
        x.score(Build.orElse(x, failing, one), 0);
        check.due("x is deeper, and FAILS", x.told(4), 4);
        x.score(Build.orElse(x, one, deep), 0);
        check.due("y is not asked", x.told(4), 2);
        x.forget();
        Build.constant(x, NAN);
        for (int f = 1; f < 60; f++) Build.orElse(x, 0, f - 1);
        dueFailure("a chain of y", 59, NO_NUMBER, 0);
        dueCounts("a chain of y", 119, 59, 60);
    }

    private void topBad() {
        on("The k-th object by a FORMULA. BAD");
        for (int number : new int[] {-1, 60, MIN, MAX}) State.dueBad(check, "top(" + number + ", 0)", (s, n) -> s.top(number, 0));
        State.dueBad(check, "top(n, 0)", (s, n) -> s.top(n, 0));
        for (int k : new int[] {-1, 40, 41, MIN, MAX}) State.dueBad(check, "top(n - 1, " + k + ")", (s, n) -> s.top(n - 1, k));
        for (int number = 0; number < 60; number++) Build.constant(x, 1.0);
        check.due("top(59, 0)", x.top(59, 0), 0);
        check.due("top(59, 39)", x.top(59, 39), 39);
    }

    private void topEdges() {
        on("the greatest VALUE first");
        Build.column(x, 0);
        double[] values = {-INF, -MOST, -1.0, -LEAST, 0.0, LEAST, 1.0, Math.nextUp(1.0), MOST, INF};
        for (int k = 0; k < values.length; k++) x.column(2 * k, 0, Check.bits(values[k]));
        for (int k = 0; k < values.length; k++) check.due("top(0, " + k + ")", x.top(0, k), 2 * (values.length - 1 - k));
        check.due("the first that FAILS", x.top(0, values.length), 1);
        check.due("the last", x.top(0, 39), 39);
    }

    private void topFailing() {
        on("those that FAIL behind all others");
        Build.column(x, 0);
        for (int k = 0; k < 40; k++) check.due("all FAIL", x.top(0, k), k);
        x.column(39, 0, Check.bits(-INF));
        check.due("one does not", x.top(0, 0), 39);
        check.due("the others", x.top(0, 1), 0);
        check.due("the last", x.top(0, 39), 38);
        for (int object = 1; object < 40; object++) x.column(object, 0, Check.bits(-INF));
        check.due("one FAILS", x.top(0, 39), 0);
        check.due("the first that does not", x.top(0, 0), 1);
        int nan = Build.constant(x, NAN);
        Build.orElse(x, 0, nan);
        Build.sum(x, 0);
        check.due("the kind of the failure counts nothing", x.top(3, 0), 0);
        check.due("the kind of the failure counts nothing", x.top(3, 39), 39);
        x.column(0, 0, Check.bits(5.0));
        x.column(7, 0, Check.bits(NAN));
        check.due("a VALUE above 0", x.top(3, 0), 0);
        check.due("then the least number of those that FAIL", x.top(3, 1), 1);
        check.due("MISSING or BELOW", x.top(3, 7), 7);
    }

    private void topAlike() {
        on("of like ones the least number");
        Build.counted(x, 0);
        for (int k = 0; k < 40; k++) check.due("all alike", x.top(0, k), k);
        x.tell(39, 0, 5, 0);
        x.tell(0, 0, 5, 0);
        int[] want = {0, 39, 1, 2};
        for (int k = 0; k < 4; k++) check.due("two ahead", x.top(0, k), want[k]);
        check.due("the last", x.top(0, 39), 38);
        Build.column(x, 3);
        x.column(3, 3, Check.bits(-0.0));
        x.column(4, 3, Check.bits(0.0));
        x.column(5, 3, Check.bits(-0.0));
        for (int k = 0; k < 3; k++) check.due("both zeros are alike", x.top(1, k), 3 + k);
        x.column(9, 3, Check.bits(INF));
        x.column(8, 3, Check.bits(INF));
        check.due("endless ones are alike", x.top(1, 0), 8);
        check.due("endless ones are alike", x.top(1, 1), 9);
    }

    private void topBelow() {
        on("those that FAIL behind all others (BELOW)");
        int column = Build.column(x, 1);
        int boost = Build.boost(x, 1.0, column);
        for (int object = 0; object < 40; object++) x.column(object, 1, Check.bits(object - 20.0));
        check.due("by the COLUMN", x.top(column, 39), 0);
        check.due("by the BOOST, the last VALUE", x.top(boost, 19), 20);
        check.due("by the BOOST, the first that FAILS", x.top(boost, 20), 0);
        check.due("by the BOOST, the last", x.top(boost, 39), 19);
    }

    private void looking() {
        on("told, top: only tell");
        for (int what = 0; what < 5; what++) {
            int w = what;
            State.dueToChangeNothing(check, "told(" + what + ")", (s, n) -> s.told(w));
        }
        State.dueToChangeNothing(check, "top(n - 1, 39)", (s, n) -> s.top(n - 1, 39));
        State.dueToChangeNothing(check, "top(0, 0)", (s, n) -> s.top(0, 0));
    }
}
