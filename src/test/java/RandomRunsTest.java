import java.util.Random;

/** Long runs of drawn calls, answered by the class and by the Model; the same ones each time. */
public final class RandomRunsTest {
    private static final int RUNS = 3000, CALLS = 512;
    private static final double[] KNOWN = {0.0, -0.0, 1.0, -1.0, 0.5, 0.75, 1.2, 2.0, -3.0, 10.0, 1e300, -1e300, Double.MIN_VALUE,
        -Double.MIN_VALUE, Double.MAX_VALUE, -Double.MAX_VALUE, Double.MIN_NORMAL, Double.POSITIVE_INFINITY,
        Double.NEGATIVE_INFINITY, Double.NaN};

    private final Check check = new Check();
    private final Random random;
    private final ScoreFormulas x = new ScoreFormulas();
    private final Model model = new Model();
    private final int taste;
    /** Such a run builds upon what was told last: deep FORMULAS, up to the greatest SIZE. */
    private final boolean steep;
    private int formulas = 0;

    private RandomRunsTest(int run) {
        random = new Random(run);
        taste = run % 3;
        steep = run % 2 == 1;
    }

    public static void main(String[] args) {
        long answers = 0;
        for (int run = 0; run < RUNS; run++) {
            RandomRunsTest test = new RandomRunsTest(run);
            for (int call = 0; call < CALLS; call++) test.call("run " + run + ", call " + call);
            test.check.finish(run == RUNS - 1 ? "RandomRunsTest, the last run" : null);
            answers += CALLS;
        }
        System.out.println("RandomRunsTest: " + answers + " calls");
    }

    /** One of 0 .. bound - 1, now and then just outside. */
    private int number(int bound) {
        int drawn = random.nextInt(60);
        if (drawn == 0) return -1;
        if (drawn == 1) return bound;
        return bound > 0 ? random.nextInt(bound) : 0;
    }

    private double number() {
        if (taste == 0) return random.nextInt(3) == 0 ? KNOWN[random.nextInt(KNOWN.length)] : random.nextDouble() * 4;
        if (taste == 1) return random.nextDouble() * 3 - 0.5;
        return random.nextInt(4) == 0 ? Double.longBitsToDouble(random.nextLong()) : KNOWN[random.nextInt(KNOWN.length)];
    }

    private long bits() {
        double drawn = number();
        if (drawn != drawn) return random.nextBoolean() ? -1L : 0x7ff0000000000000L + 1 + random.nextInt(1000);
        return Check.bits(drawn);
    }

    private int length() {
        return number(random.nextBoolean() ? 300 : 100001);
    }

    private void call(String where) {
        int what = random.nextInt(100);
        if (what < 12) tell(where);
        else if (what < 24) column(where);
        else if (what < 26) given(where);
        else if (what < 29) average(where);
        else if (what < 31) packed(where);
        else if (what < 47) formula(where);
        else if (what < 60) part(where);
        else if (what < 75) score(where);
        else if (what < 86) told(where);
        else if (what < 93) about(where);
        else if (what < 96) partOf(where);
        else if (what < 99) top(where);
        else if (random.nextInt(3) == 0) reset(where);
    }

    private void tell(String where) {
        int object = number(40);
        int field = number(4);
        int count = number(random.nextBoolean() ? 10 : 1001);
        int length = length();
        check.due(where + " tell", x.tell(object, field, count, length), model.tell(object, field, count, length));
    }

    private void column(String where) {
        int object = number(40);
        int column = number(4);
        long bits = bits();
        check.due(where + " column", x.column(object, column, bits), model.column(object, column, bits));
    }

    private void given(String where) {
        int field = number(4);
        long bits = bits();
        check.due(where + " given", x.given(field, bits), model.given(field, bits));
    }

    private void average(String where) {
        int field = number(4);
        check.due(where + " average", x.average(field), model.average(field));
    }

    private void packed(String where) {
        int length = length();
        int what = number(2);
        check.due(where + " packed", x.packed(length, what), model.packed(length, what));
    }

    /** The number of a FORMULA: in a steep run one of the latest, more often than not. */
    private int told() {
        if (!steep || formulas == 0 || random.nextInt(4) == 0) return number(formulas);
        return formulas - 1 - random.nextInt(Math.min(4, formulas));
    }

    private int kind() {
        return steep && formulas > 3 && random.nextInt(5) > 0 ? 6 + random.nextInt(8) : number(14);
    }

    private void formula(String where) {
        int kind = kind();
        boolean place = kind >= 1 && kind <= 5;
        int a = place ? number(4) : told();
        int b = told();
        long p = bits();
        long q = bits();
        int want = model.formula(kind, a, b, p, q);
        check.due(where + " formula of kind " + kind, x.formula(kind, a, b, p, q), want);
        if (want >= 0) formulas++;
    }

    private void part(String where) {
        int whole = formulas > 0 && random.nextBoolean() ? formulas - 1 - random.nextInt(Math.min(5, formulas)) : number(formulas);
        if (steep) whole = latestWhole();
        int part = number(random.nextInt(10) == 0 ? formulas : whole);
        if (steep && whole > 0 && random.nextBoolean()) part = whole - 1 - random.nextInt(Math.min(4, whole));
        check.due(where + " part", x.part(whole, part), model.part(whole, part));
    }

    /** The last FORMULA of the kinds 6 to 8; now and then another one. */
    private int latestWhole() {
        int whole = formulas - 1;
        while (whole > 0 && (model.about(whole, 0) < 6 || model.about(whole, 0) > 8)) whole--;
        return random.nextInt(8) == 0 ? number(formulas) : whole;
    }

    private void score(String where) {
        int formula = told();
        int object = number(random.nextBoolean() ? 40 : 5);
        check.due(where + " score(" + formula + ", " + object + ")", x.score(formula, object), model.score(formula, object));
    }

    private void told(String where) {
        int what = number(5);
        check.due(where + " told " + what, x.told(what), model.told(what));
    }

    private void about(String where) {
        int formula = told();
        int what = number(12);
        check.due(where + " about " + what, x.about(formula, what), model.about(formula, what));
    }

    private void partOf(String where) {
        int formula = told();
        int k = number(random.nextBoolean() ? 2 : 8);
        check.due(where + " partOf", x.partOf(formula, k), model.partOf(formula, k));
    }

    private void top(String where) {
        int formula = told();
        int k = number(random.nextBoolean() ? 40 : 5);
        check.due(where + " top", x.top(formula, k), model.top(formula, k));
    }

    private void reset(String where) {
        if (random.nextBoolean()) {
            check.due(where + " clear", x.clear(), model.clear());
        } else {
            check.due(where + " forget", x.forget(), model.forget());
            formulas = 0;
        }
    }
}
