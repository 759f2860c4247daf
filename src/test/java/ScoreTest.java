/** Promises 9 and 10: VALUES, failures, and what is told of them. */
public final class ScoreTest {
    private static final double INF = Double.POSITIVE_INFINITY, NAN = Double.NaN, LEAST = Double.MIN_VALUE, MOST = Double.MAX_VALUE;
    private static final int NONE = ScoreFormulas.NONE;

    private final Check check = new Check();
    private ScoreFormulas x = new ScoreFormulas();

    public static void main(String[] args) {
        ScoreTest test = new ScoreTest();
        test.beforeAnyScore();
        test.counts();
        test.saturated();
        test.normed();
        test.sums();
        test.products();
        test.bests();
        test.boosts();
        test.decays();
        test.nears();
        test.floors();
        test.elses();
        test.firstFailure();
        test.wholesInWholes();
        test.depths();
        test.bad();
        test.check.finish("ScoreTest");
    }

    private int make(int kind, int a, int b, double p, double q) {
        return x.formula(kind, a, b, Check.bits(p), Check.bits(q));
    }

    private int constant(double value) {
        return make(0, 0, 0, value, 0.0);
    }

    private int whole(int kind, double p, int... parts) {
        int made = make(kind, 0, 0, p, 0.0);
        for (int part : parts) x.part(made, part);
        return made;
    }

    private int wholeOf(int kind, double p, double... values) {
        int[] parts = new int[values.length];
        for (int i = 0; i < parts.length; i++) parts[i] = constant(values[i]);
        return whole(kind, p, parts);
    }

    private void dueValue(String what, int formula, double want) {
        check.dueDouble(what, x.score(formula, 3), want);
        check.due(what + ", told 0", x.told(0), 0);
        check.due(what + ", told 1", x.told(1), NONE);
    }

    private void dueFailure(String what, int formula, int why, int culprit) {
        check.due(what, x.score(formula, 3), 0L);
        check.due(what + ", told 0", x.told(0), why);
        check.due(what + ", told 1", x.told(1), culprit);
    }

    private void dueTold(String what, int asked, int caught, int deepest) {
        check.due(what + ", asked", x.told(2), asked);
        check.due(what + ", caught", x.told(3), caught);
        check.due(what + ", deepest", x.told(4), deepest);
    }

    private void beforeAnyScore() {
        check.due("told", x.told(0), 0);
        check.due("told", x.told(1), NONE);
        for (int what = 2; what <= 4; what++) check.due("told", x.told(what), 0);
        for (int what : new int[] {-1, 5, Integer.MIN_VALUE, Integer.MAX_VALUE}) check.due("told", x.told(what), ScoreFormulas.BAD);
    }

    private void counts() {
        x = new ScoreFormulas();
        dueValue("CONSTANT", constant(-0.0), -0.0);
        dueValue("CONSTANT", constant(-INF), -INF);
        dueValue("CONSTANT", constant(-3.5), -3.5);
        dueFailure("CONSTANT NaN", constant(NAN), 2, 3);
        for (int count = 0; count <= 1000; count++) {
            x = new ScoreFormulas();
            int counted = make(1, 2, 0, 0.0, 0.0);
            int rooted = make(2, 2, 0, 0.0, 0.0);
            x.tell(3, 2, count, 5);
            check.dueDouble("COUNTED", x.score(counted, 3), count);
            check.dueDouble("ROOTED " + count, x.score(rooted, 3), Math.sqrt(count));
        }
        int column = make(5, 1, 0, 0.0, 0.0);
        dueFailure("COLUMN", column, 1, column);
        x.column(3, 1, Check.bits(-INF));
        dueValue("COLUMN", column, -INF);
        dueTold("COLUMN", 1, 0, 1);
    }

    private void saturated() {
        x = new ScoreFormulas();
        double[] ps = {0.0, -0.0, 1.2, INF, LEAST, MOST};
        for (int i = 0; i < ps.length; i++) make(3, 0, 0, ps[i], 0.0);
        for (int i = 0; i < ps.length; i++) {
            x.tell(3, 0, 0, 0);
            if (ps[i] == 0.0) dueFailure("0 / 0", i, 2, i);
            else dueValue("SATURATED 0", i, 0.0);
            x.tell(3, 0, 7, 0);
            dueValue("SATURATED 7", i, 7.0 / (7.0 + ps[i]));
        }
    }

    private static double normedOf(double count, double length, double average, double p, double q) {
        return (count * (p + 1)) / (count + p * ((1 - q) + q * (length / average)));
    }

    private void normed() {
        double[] ps = {0.0, -0.0, 1.2, INF, 1e300, LEAST};
        double[] qs = {0.0, -0.0, 0.75, 1.0};
        double[] averages = {NAN, 3.0, LEAST, INF, MOST, 1e-300};
        for (double average : averages) {
            x = new ScoreFormulas();
            for (double p : ps) for (double q : qs) make(4, 1, 0, p, q);
            for (int i = 0; i < 24; i += 5) dueFailure("no AVERAGE", i, 2, i);
            for (int[] told : new int[][] {{0, 0}, {5, 0}, {0, 67}, {5, 67}, {1000, 100000}}) {
                x.tell(4, 1, 0, 10);
                x.tell(3, 1, told[0], told[1]);
                x.given(1, Check.bits(average));
                double length = x.packed(told[1], 1);
                double a = average == average ? average : length == 0 ? 10.0 : (length + 10.0) / 2.0;
                for (int i = 0; i < 24; i++) {
                    double want = normedOf(told[0], length, a, ps[i / 4], qs[i % 4]);
                    if (want != want) dueFailure("NORMED", i, 2, i);
                    else dueValue("NORMED", i, want);
                }
            }
        }
    }

    private void sums() {
        x = new ScoreFormulas();
        dueValue("SUM of none", whole(6, 0), 0.0);
        dueValue("SUM of -0.0", wholeOf(6, 0, -0.0), 0.0);
        dueValue("SUM in order", wholeOf(6, 0, 1e16, 1.0, 1.0, -1e16), ((1e16 + 1.0) + 1.0) + -1e16);
        dueValue("SUM of tenths", wholeOf(6, 0, 0.1, 0.2, 0.3), 0.0 + 0.1 + 0.2 + 0.3);
        dueValue("SUM between below", wholeOf(6, 0, -5.0, 7.0), 2.0);
        int below = wholeOf(6, 0, 5.0, -7.0);
        dueFailure("SUM below", below, 3, below);
        int least = wholeOf(6, 0, -LEAST);
        dueFailure("SUM just below", least, 3, least);
        int endless = wholeOf(6, 0, -INF);
        dueFailure("SUM endless below", endless, 3, endless);
        x = new ScoreFormulas();
        int noNumber = wholeOf(6, 0, INF, -INF, 1.0);
        dueFailure("SUM no number", noNumber, 2, noNumber);
        dueTold("SUM no number", 4, 0, 2);
        int column = make(5, 0, 0, 0.0, 0.0);
        dueFailure("a later part fails first", whole(6, 0, 0, 1, column), 1, column);
        dueFailure("a part that fails", whole(6, 0, 0, column, noNumber), 1, column);
        dueTold("parts behind it are not begun", 3, 0, 2);
        dueValue("over the greatest", wholeOf(6, 0, MOST, MOST, 1.0), INF);
    }

    private void products() {
        x = new ScoreFormulas();
        dueValue("PRODUCT of none", whole(7, 0), 1.0);
        dueValue("PRODUCT", wholeOf(7, 0, 0.1, 0.2, 0.3), 0.1 * 0.2 * 0.3);
        dueValue("PRODUCT of two below", wholeOf(7, 0, -2.0, -3.0), 6.0);
        dueValue("PRODUCT of -0.0", wholeOf(7, 0, -0.0), -0.0);
        dueValue("PRODUCT under the least", wholeOf(7, 0, -LEAST, 0.5), -0.0);
        int below = wholeOf(7, 0, -2.0, 3.0);
        dueFailure("PRODUCT below", below, 3, below);
        int lost = wholeOf(7, 0, 0.0, INF, 2.0, -1.0);
        dueFailure("PRODUCT no number", lost, 2, lost);
        dueTold("PRODUCT no number", 5, 0, 2);
        int lostToo = wholeOf(7, 0, -INF, 0.0);
        dueFailure("PRODUCT no number", lostToo, 2, lostToo);
        dueFailure("of a part that fails", whole(7, 0, 0, below, lost), 3, below);
    }

    private void bests() {
        x = new ScoreFormulas();
        dueValue("BEST of none", whole(8, 0.5), 0.0);
        dueValue("BEST of none", whole(8, -0.0), 0.0);
        dueValue("BEST", wholeOf(8, 0.3, 1.0, 5.0, 2.5), 5.0 + 0.3 * ((1.0 + 5.0 + 2.5) - 5.0));
        dueValue("BEST of one", wholeOf(8, 0.3, 0.1), 0.1 + 0.3 * (0.1 - 0.1));
        int one = wholeOf(8, 0.0, -4.0, -2.0);
        dueFailure("BEST below", one, 3, one);
        dueValue("BEST alone counts", wholeOf(8, 0.0, -4.0, 2.0), 2.0);
        int drawn = wholeOf(8, 1.0, -4.0, 2.0);
        dueFailure("BEST drawn below", drawn, 3, drawn);
        int lost = wholeOf(8, 0.5, INF, 1.0);
        dueFailure("BEST endless", lost, 2, lost);
        int lostToo = wholeOf(8, 0.0, -INF, 1.0);
        dueFailure("0 * endless", lostToo, 2, lostToo);
        x = new ScoreFormulas();
        dueValue("max takes 0.0 before -0.0", wholeOf(8, 0.0, -0.0, 0.0, -1.0), 0.0);
        dueValue("max takes 0.0 before -0.0", wholeOf(8, 0.0, 0.0, -0.0, -1.0), 0.0);
        dueValue("max of -0.0", wholeOf(8, 0.0, -0.0, -0.0, -1.0), -0.0);
        dueValue("the rest in order", wholeOf(8, 1.0, 1e16, 1.0, 1.0), 1e16 + 1.0 * (((1e16 + 1.0) + 1.0) - 1e16));
        int column = make(5, 0, 0, 0.0, 0.0);
        dueFailure("a part fails", whole(8, 0.5, 1, column), 1, column);
    }

    private void boosts() {
        x = new ScoreFormulas();
        double[] values = {3.0, -3.0, 0.0, -0.0, INF, -INF, LEAST, -LEAST};
        double[] ps = {0.0, -0.0, 0.5, 2.0, INF};
        for (double value : values) {
            for (double p : ps) {
                x = new ScoreFormulas();
                int boost = make(9, constant(value), 0, p, 0.0);
                double want = p * value;
                if (want != want) dueFailure("BOOST", boost, 2, boost);
                else if (want < 0) dueFailure("BOOST", boost, 3, boost);
                else dueValue("BOOST", boost, want);
                dueTold("BOOST", 2, 0, 2);
            }
        }
    }

    private static final double[] WIDE = {0.0, -0.0, 1.0, -1.0, 3.0, 5.5, 1e300, -1e300, INF, -INF, LEAST, MOST, -MOST};

    private void decays() {
        for (double value : WIDE) {
            for (double p : WIDE) {
                for (double q : new double[] {1.0, 4.0, LEAST, MOST, INF}) {
                    x = new ScoreFormulas();
                    int decay = make(10, constant(value), 0, p, q);
                    double want = Math.max(0.0, (q - Math.abs(value - p)) / q);
                    if (want != want) dueFailure("DECAY", decay, 2, decay);
                    else dueValue("DECAY of " + value + " " + p + " " + q, decay, want);
                }
            }
        }
    }

    private void nears() {
        for (double value : WIDE) {
            for (double p : WIDE) {
                for (double q : new double[] {1.0, 4.0, LEAST, MOST, INF}) {
                    x = new ScoreFormulas();
                    int near = make(11, constant(value), 0, p, q);
                    double r = (value - p) / q;
                    double want = 1 / (1 + r * r);
                    if (want != want) dueFailure("NEAR", near, 2, near);
                    else dueValue("NEAR of " + value + " " + p + " " + q, near, want);
                }
            }
        }
    }

    private void floors() {
        double[] values = {0.0, -0.0, 0.5, -0.5, 1.0, -1.0, 1.5, -1.5, LEAST, -LEAST, INF, -INF, MOST, -MOST, 0x1p52, -0x1p52,
            0x1p52 - 0.5, -0x1p52 + 0.5, 0x1p53 + 2, 1e18, -1e19, 4503599627370495.5, 2147483648.5, -2147483649.5, 0.9999999999999999};
        for (double value : values) {
            x = new ScoreFormulas();
            dueValue("FLOOR of " + value, make(12, constant(value), 0, 0.0, 0.0), Math.floor(value));
        }
        x = new ScoreFormulas();
        dueFailure("FLOOR", make(12, constant(NAN), 0, 0.0, 0.0), 2, 0);
    }

    private void elses() {
        x = new ScoreFormulas();
        int column = make(5, 0, 0, 0.0, 0.0);
        int nan = constant(NAN);
        int five = constant(5.0);
        int minus = constant(-5.0);
        int below = make(9, minus, 0, 1.0, 0.0);
        dueValue("ELSE x", make(13, five, nan, 0.0, 0.0), 5.0);
        dueTold("ELSE x: y is not asked", 2, 0, 2);
        for (int failing : new int[] {column, nan, below}) {
            dueValue("ELSE y", make(13, failing, five, 0.0, 0.0), 5.0);
            dueTold("ELSE y", failing == below ? 4 : 3, 1, failing == below ? 3 : 2);
        }
        dueValue("ELSE below 0 is no failure of its own", make(13, column, minus, 0.0, 0.0), -5.0);
        int both = make(13, column, nan, 0.0, 0.0);
        dueFailure("ELSE both", both, 2, nan);
        dueTold("ELSE both", 3, 1, 2);
        dueFailure("ELSE both", make(13, nan, column, 0.0, 0.0), 1, column);
        dueFailure("ELSE both", make(13, nan, below, 0.0, 0.0), 3, below);
        dueValue("ELSE of ELSE", make(13, both, five, 0.0, 0.0), 5.0);
        dueTold("ELSE of ELSE", 5, 2, 3);
        int inner = make(13, column, five, 0.0, 0.0);
        dueValue("caught inside a SUM", whole(6, 0, inner, inner, five), 15.0);
        dueTold("caught inside a SUM", 8, 2, 3);
        int sum = whole(6, 0, five, column, five);
        dueValue("caught further out", make(13, make(9, sum, 0, 2.0, 0.0), minus, 0.0, 0.0), -5.0);
        dueTold("caught further out", 6, 1, 4);
        x.column(3, 0, Check.bits(1.25));
        dueValue("no failure any more", both, 1.25);
        dueTold("no failure any more", 2, 0, 2);
        check.due("by another object", x.score(both, 4), 0);
        check.due("by another object", x.told(1), nan);
    }

    private void firstFailure() {
        x = new ScoreFormulas();
        int column = make(5, 2, 0, 0.0, 0.0);
        int nan = constant(NAN);
        int below = wholeOf(6, 0, -1.0);
        int kept = make(13, column, nan, 0.0, 0.0);
        dueFailure("the caught one is not first", whole(6, 0, kept, below), 2, nan);
        dueTold("the caught one is not first", 4, 1, 3);
        dueFailure("in order", whole(7, 0, below, column, nan), 3, below);
        dueFailure("in order", whole(7, 0, nan, below, column), 2, nan);
        dueFailure("in order", whole(8, 0, column, nan, below), 1, column);
        for (int kind = 9; kind <= 12; kind++) dueFailure("likewise, kind " + kind, make(kind, below, 0, 1.0, 1.0), 3, below);
        dueTold("likewise", 3, 0, 3);
    }

    private void wholesInWholes() {
        x = new ScoreFormulas();
        int two = constant(2.0);
        int three = constant(3.0);
        int sum = whole(6, 0, three, three, three);
        int product = whole(7, 0, two, sum, three, sum);
        dueValue("PRODUCT of SUMS", product, 2.0 * 9.0 * 3.0 * 9.0);
        dueTold("PRODUCT of SUMS", 11, 0, 3);
        dueValue("BEST of all", whole(8, 0.25, two, product, sum), 486.0 + 0.25 * (2.0 + 486.0 + 9.0 - 486.0));
        dueTold("BEST of all", 17, 0, 4);
        int outer = whole(6, 0, two, make(13, make(12, product, 0, 0, 0), two, 0, 0), three);
        dueValue("SUM around ELSE", outer, 491.0);
        dueTold("SUM around ELSE", 16, 0, 6);
    }

    private void depths() {
        x = new ScoreFormulas();
        make(1, 0, 0, 0.0, 0.0);
        for (int f = 1; f < 60; f++) make(f % 2 == 0 ? 12 : 9, f - 1, 0, 1.0, 0.0);
        x.tell(3, 0, 17, 0);
        dueValue("a chain of 60", 59, 17.0);
        dueTold("a chain of 60", 60, 0, 60);
        x.forget();
        make(5, 0, 0, 0.0, 0.0);
        for (int f = 1; f < 60; f++) make(13, f - 1, 0, 0.0, 0.0);
        dueFailure("a chain of ELSE", 59, 1, 0);
        dueTold("a chain of ELSE", 119, 59, 60);
    }

    private void bad() {
        x = new ScoreFormulas();
        int nan = constant(NAN);
        int sum = whole(6, 0, nan);
        int[][] bad = {{-1, 0}, {2, 0}, {0, -1}, {0, 40}, {Integer.MAX_VALUE, 0}, {0, Integer.MIN_VALUE}};
        for (int[] b : bad) check.due("score bad", x.score(b[0], b[1]), 0);
        check.due("told before", x.told(2), 0);
        dueFailure("score", sum, 2, nan);
        for (int[] b : bad) check.due("score bad", x.score(b[0], b[1]), 0);
        check.due("told stays", x.told(0), 2);
        check.due("told stays", x.told(1), nan);
        dueTold("told stays", 2, 0, 2);
        x.top(constant(1.0), 0);
        check.due("top is no score", x.told(0), 2);
        dueTold("top is no score", 2, 0, 2);
        dueValue("the first object's", 2, 1.0);
        check.dueDouble("the last object", x.score(2, 39), 1.0);
    }
}
