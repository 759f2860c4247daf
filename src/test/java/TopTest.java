/** Promise 13: the objects in order. */
public final class TopTest {
    public static void main(String[] args) {
        Check check = new Check();
        order(check);
        failures(check);
        likes(check);
        bad(check);
        check.finish("TopTest");
    }

    private static void order(Check check) {
        ScoreFormulas x = new ScoreFormulas();
        x.formula(1, 3, 0, 0, 0);
        for (int object = 0; object < 40; object++) x.tell(object, 3, object * 7 % 40, 0);
        for (int object = 0; object < 40; object++) {
            check.due("top", x.top(0, 39 - object * 7 % 40), object);
        }
        for (int object = 0; object < 40; object++) x.tell(object, 3, 5, 0);
        for (int k = 0; k < 40; k++) check.due("all alike", x.top(0, k), k);
    }

    private static void failures(Check check) {
        ScoreFormulas x = new ScoreFormulas();
        x.formula(5, 0, 0, 0, 0);
        for (int k = 0; k < 40; k++) check.due("all fail", x.top(0, k), k);
        x.column(39, 0, Check.bits(Double.NEGATIVE_INFINITY));
        x.column(38, 0, Check.bits(-1.0));
        x.column(37, 0, Check.bits(0.0));
        x.column(5, 0, Check.bits(Double.POSITIVE_INFINITY));
        x.column(6, 0, Check.bits(-1.0));
        int[] first = {5, 37, 6, 38, 39, 0, 1, 2, 3, 4, 7};
        for (int k = 0; k < first.length; k++) check.due("fail behind", x.top(0, k), first[k]);
        check.due("last", x.top(0, 39), 36);
        x.formula(9, 0, 0, Check.bits(1.0), 0);
        int[] boosted = {5, 37, 0, 1, 2, 3, 4, 6, 7};
        for (int k = 0; k < boosted.length; k++) check.due("below fails", x.top(1, k), boosted[k]);
        check.due("all failures are alike", x.top(1, 39), 39);
        x.formula(0, 0, 0, Check.bits(-3.0), 0);
        x.formula(13, 0, 2, 0, 0);
        int[] caught = {5, 37, 6, 38, 0, 1, 2, 3, 4, 7};
        for (int k = 0; k < caught.length; k++) check.due("caught", x.top(3, k), caught[k]);
        check.due("caught, last", x.top(3, 39), 39);
    }

    private static void likes(Check check) {
        ScoreFormulas x = new ScoreFormulas();
        x.formula(5, 1, 0, 0, 0);
        x.column(10, 1, Check.bits(-0.0));
        x.column(11, 1, Check.bits(0.0));
        x.column(12, 1, Check.bits(-0.0));
        x.column(13, 1, Check.bits(Double.MIN_VALUE));
        x.column(9, 1, Check.bits(-Double.MIN_VALUE));
        int[] first = {13, 10, 11, 12, 9, 0};
        for (int k = 0; k < first.length; k++) check.due("0.0 and -0.0 are alike", x.top(0, k), first[k]);
    }

    private static void bad(Check check) {
        ScoreFormulas x = new ScoreFormulas();
        check.due("no formula", x.top(0, 0), ScoreFormulas.BAD);
        x.formula(6, 0, 0, 0, 0);
        check.due("top", x.top(0, 0), 0);
        int[][] bad = {{-1, 0}, {1, 0}, {0, -1}, {0, 40}, {Integer.MAX_VALUE, 0}, {0, Integer.MAX_VALUE}, {0, Integer.MIN_VALUE}};
        for (int[] b : bad) check.due("top bad", x.top(b[0], b[1]), ScoreFormulas.BAD);
    }
}
