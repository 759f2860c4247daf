/** Promises 7, 8, 11, 12 and 15: each sentence that names a bound, by a test of its own. */
public final class FormulaBoundsTest {
    private static final int BAD = ScoreFormulas.BAD, STATE = ScoreFormulas.STATE, FULL = ScoreFormulas.FULL;
    private static final int MIN = Integer.MIN_VALUE, MAX = Integer.MAX_VALUE;
    private static final double INF = Double.POSITIVE_INFINITY, NAN = Double.NaN, LEAST = Double.MIN_VALUE, MOST = Double.MAX_VALUE;

    private final Check check = new Check();
    private ScoreFormulas x;

    public static void main(String[] args) {
        FormulaBoundsTest test = new FormulaBoundsTest();
        test.sixty();
        test.kinds();
        test.fields();
        test.columns();
        test.toldAhead();
        test.passedOver();
        test.notBelowZero();
        test.shareOfNormed();
        test.shareOfBest();
        test.aboveZero();
        test.noneIsNan();
        test.sizeByFormula();
        test.sizeByElse();
        test.sizeByPart();
        test.sizeOfRepeated();
        test.formulaInOrder();
        test.eightParts();
        test.partsOfKinds();
        test.partToldAhead();
        test.noSuchPart();
        test.partOfAnother();
        test.thePartMayBe();
        test.refusedIsNoPart();
        test.partInOrder();
        test.aboutBounds();
        test.aboutCounts();
        test.safeConstants();
        test.safeKinds();
        test.leans();
        test.risesWithoutLeaning();
        test.risesOfProducts();
        test.neverRises();
        test.provedAnew();
        test.partOfBounds();
        test.forgetCounts();
        test.forgetAll();
        test.forgetLeavesTheRest();
        test.looking();
        test.check.finish("FormulaBoundsTest");
    }

    private void on(String sentence) {
        check.sentence(sentence);
        x = new ScoreFormulas();
    }

    /** Some FORMULA stands as number 0, for the kinds that ask for one. */
    private void onOne(String sentence) {
        on(sentence);
        Build.constant(x, 1.0);
    }

    private void dueTaken(int kind, double p, double q) {
        ScoreFormulas one = new ScoreFormulas();
        Build.constant(one, 1.0);
        check.due("kind " + kind + ", p " + p + ", q " + q, Build.of(one, kind, 0, 0, p, q), 1);
        check.due("kind " + kind + ", p " + p + ", q " + q + ": about", one.about(1, 0), kind);
    }

    private void dueBad(int kind, double p, double q) {
        String call = "kind " + kind + ", p " + p + ", q " + q;
        // In states without a FORMULA 0 it is BAD for that, too.
        State.dueBad(check, call, (s, n) -> Build.of(s, kind, 0, 0, p, q));
        ScoreFormulas one = new ScoreFormulas();
        Build.constant(one, 1.0);
        check.due(call, Build.of(one, kind, 0, 0, p, q), BAD);
        check.due(call + ": forget()", one.forget(), 1);
    }

    private void sixty() {
        on("FORMULAS (60)");
        for (int number = 0; number < 60; number++) check.due("a number", Build.any(x, number % 9, 0, 0), number);
        check.due("the 61st", Build.any(x, 0, 0, 0), FULL);
        check.due("the last one's kind", x.about(59, 0), 59 % 9);
        check.due("the 61st: about", x.about(60, 0), BAD);
        check.due("forget()", x.forget(), 60);
        for (int kind = 0; kind <= 13; kind++) {
            int k = kind;
            State.MANY.dueUnchanged(check, "the 61st, of kind " + kind, (s, n) -> Build.any(s, k, 0, 0), FULL);
        }
    }

    private void kinds() {
        onOne("FORMULAS (60), of kinds");
        for (int kind = 0; kind <= 13; kind++) check.due("kind " + kind, Build.any(x, kind, 0, 0), kind + 1);
        for (int kind : new int[] {-1, 14, 15, MIN, MAX}) {
            State.dueBad(check, "kind " + kind, (s, n) -> Build.any(s, kind, 0, 0));
        }
    }

    private void fields() {
        on("x: the FIELD");
        for (int kind = 1; kind <= 4; kind++) {
            x = new ScoreFormulas();
            for (int field = 0; field < 4; field++) {
                check.due("kind " + kind + " of " + field, Build.any(x, kind, field, 0), field);
                check.due("LEANS", x.about(field, 4 + field), 1);
            }
            int k = kind;
            for (int field : new int[] {-1, 4, 5, MIN, MAX}) {
                State.dueBad(check, "kind " + kind + " of " + field, (s, n) -> Build.any(s, k, field, 0));
            }
        }
    }

    private void columns() {
        on("x: the COLUMN");
        for (int column = 0; column < 4; column++) {
            x.column(0, column, Check.bits(column));
            check.due("COLUMN " + column, Build.column(x, column), column);
            check.dueDouble("its VALUE", x.score(column, 0), column);
        }
        for (int column : new int[] {-1, 4, 5, MIN, MAX}) State.dueBad(check, "COLUMN " + column, (s, n) -> Build.column(s, column));
    }

    private void toldAhead() {
        on("x, y: FORMULAS told ahead");
        for (int kind = 9; kind <= 13; kind++) {
            x = new ScoreFormulas();
            Build.constant(x, 1.0);
            Build.constant(x, 2.0);
            check.due("the first, kind " + kind, Build.any(x, kind, 0, 0), 2);
            check.due("the last, kind " + kind, Build.any(x, kind, 2, 2), 3);
            check.due("its part", x.partOf(3, 0), 2);
            int k = kind;
            State.dueBad(check, "x itself, kind " + kind, (s, n) -> Build.any(s, k, n, 0));
            State.dueBad(check, "x behind, kind " + kind, (s, n) -> Build.any(s, k, n + 1, 0));
            for (int number : new int[] {-1, 60, MIN, MAX}) {
                State.dueBad(check, "x = " + number + ", kind " + kind, (s, n) -> Build.any(s, k, number, 0));
            }
        }
        State.dueBad(check, "y itself", (s, n) -> Build.orElse(s, 0, n));
        State.dueBad(check, "y behind", (s, n) -> Build.orElse(s, 0, n + 1));
        for (int number : new int[] {-1, 60, MIN, MAX}) {
            State.dueBad(check, "y = " + number, (s, n) -> Build.orElse(s, 0, number));
        }
    }

    private void passedOver() {
        onOne("x, y, p, q that its kind has not are passed over");
        x.tell(0, 1, 4, 9);
        x.tell(1, 1, 0, 3);
        for (int kind : new int[] {0, 6, 7, 8}) check.due("x, y of kind " + kind, Build.of(x, kind, MIN, MAX, 0.5, NAN) > 0 ? 1 : 0, 1);
        for (int kind = 1; kind <= 12; kind++) {
            if (kind >= 6 && kind <= 8) continue;
            int plain = Build.of(x, kind, 0, 0, 0.5, 0.5);
            for (int y : new int[] {MIN, -1, 60, MAX}) {
                int made = Build.of(x, kind, 0, y, 0.5, 0.5);
                check.due("y = " + y + " of kind " + kind + ": parts", x.about(made, 1), x.about(plain, 1));
                check.due("y = " + y + " of kind " + kind + ": score", x.score(made, 0), x.score(plain, 0));
            }
            if (kind == 5 || kind == 10) {
                x.forget();
                Build.constant(x, 1.0);
            }
        }
        x.forget();
        Build.constant(x, 1.0);
        for (int kind : new int[] {1, 2, 5, 6, 7, 12, 13}) {
            int plain = Build.of(x, kind, 0, 0, 0.5, 0.5);
            for (double p : new double[] {NAN, -1.0, INF}) {
                int made = Build.of(x, kind, 0, 0, p, p);
                check.due("p = q = " + p + " of kind " + kind + ": score", x.score(made, 0), x.score(plain, 0));
                check.due("p = q = " + p + " of kind " + kind + ": SAFE", x.about(made, 3), x.about(plain, 3));
            }
        }
        x.forget();
        Build.constant(x, 1.0);
        for (int kind : new int[] {0, 3, 8, 9}) {
            int plain = Build.of(x, kind, 0, 0, 0.5, 0.5);
            for (double q : new double[] {NAN, -1.0, INF}) {
                int made = Build.of(x, kind, 0, 0, 0.5, q);
                check.due("q = " + q + " of kind " + kind + ": score", x.score(made, 0), x.score(plain, 0));
            }
        }
    }

    private void notBelowZero() {
        on("3, 4, 9: p is not below 0");
        for (int kind : new int[] {3, 4, 9}) {
            for (double p : new double[] {0.0, -0.0, LEAST, 1.0, MOST, INF}) dueTaken(kind, p, 0.5);
            for (double p : new double[] {-LEAST, -1.0, -MOST, -INF}) dueBad(kind, p, 0.5);
        }
    }

    private void shareOfNormed() {
        on("4: q is 0 .. 1");
        for (double q : new double[] {0.0, -0.0, LEAST, Math.nextDown(1.0), 1.0}) dueTaken(4, 1.0, q);
        for (double q : new double[] {-LEAST, -1.0, -INF, Math.nextUp(1.0), 2.0, INF}) dueBad(4, 1.0, q);
    }

    private void shareOfBest() {
        on("8: p is 0 .. 1");
        for (double p : new double[] {0.0, -0.0, LEAST, Math.nextDown(1.0), 1.0}) dueTaken(8, p, 1.0);
        for (double p : new double[] {-LEAST, -1.0, -INF, Math.nextUp(1.0), 2.0, INF}) dueBad(8, p, 1.0);
    }

    private void aboveZero() {
        on("10, 11: q is above 0");
        for (int kind = 10; kind <= 11; kind++) {
            for (double q : new double[] {LEAST, 1.0, MOST, INF}) dueTaken(kind, 1.0, q);
            for (double q : new double[] {0.0, -0.0, -LEAST, -1.0, -INF}) dueBad(kind, 1.0, q);
            for (double p : new double[] {0.0, -0.0, -1.0, -MOST, -INF, INF}) dueTaken(kind, p, 1.0);
        }
    }

    private void noneIsNan() {
        on("none is NaN (CONSTANTS may be)");
        for (int kind : new int[] {3, 4, 8, 9, 10, 11}) dueBad(kind, NAN, 0.5);
        for (int kind : new int[] {4, 10, 11}) dueBad(kind, 0.5, NAN);
        dueTaken(0, NAN, NAN);
        onOne("none is NaN (CONSTANTS may be)");
        long half = Check.bits(0.5);
        long one = Check.bits(1.0);
        for (long nan : new long[] {0x7ff0000000000001L, 0xfff0000000000001L, -1L, 0x7fffffffffffffffL}) {
            for (int kind : new int[] {3, 4, 8, 9, 10, 11}) check.due("NaN as p of kind " + kind, x.formula(kind, 0, 0, nan, half), BAD);
            for (int kind : new int[] {4, 10, 11}) check.due("NaN as q of kind " + kind, x.formula(kind, 0, 0, one, nan), BAD);
        }
        check.due("forget()", x.forget(), 1);
    }

    /** An object with a FORMULA of each SIZE up to the greatest: 3 has 197, 4 198, 5 199, 6 200. */
    private ScoreFormulas great() {
        ScoreFormulas great = new ScoreFormulas();
        Build.upToGreatestSize(great);
        return great;
    }

    private void sizeByFormula() {
        on("SIZE of a FORMULA: 1 and those of its parts; 200 at most");
        x = great();
        int[] sizes = {1, 8, 30, 197, 198, 199, 200};
        for (int f = 0; f < 7; f++) check.due("SIZE", x.about(f, 2), sizes[f]);
        for (int kind = 9; kind <= 12; kind++) {
            x = great();
            check.due("of 199, kind " + kind, Build.any(x, kind, 5, 0), 7);
            check.due("its SIZE", x.about(7, 2), 200);
            check.due("of 200, kind " + kind, Build.any(x, kind, 6, 0), FULL);
            check.due("of the new one, kind " + kind, Build.any(x, kind, 7, 0), FULL);
            check.due("forget()", x.forget(), 8);
            int k = kind;
            State.GREAT.dueUnchanged(check, "of 200, kind " + kind, (s, n) -> Build.any(s, k, 6, 0), FULL);
        }
    }

    private void sizeByElse() {
        on("SIZE: 1 and those of its parts; 200 at most (ELSE)");
        x = great();
        check.due("198 and 1", Build.orElse(x, 4, 0), 7);
        check.due("its SIZE", x.about(7, 2), 200);
        check.due("1 and 198", Build.orElse(x, 0, 4), 8);
        check.due("its SIZE", x.about(8, 2), 200);
        check.due("199 and 1", Build.orElse(x, 5, 0), FULL);
        check.due("1 and 199", Build.orElse(x, 0, 5), FULL);
        check.due("200 and 200", Build.orElse(x, 6, 6), FULL);
        check.due("forget()", x.forget(), 9);
        State.GREAT.dueUnchanged(check, "ELSE of 199 and 1", (s, n) -> Build.orElse(s, 5, 0), FULL);
        State.GREAT.dueUnchanged(check, "ELSE of 1 and 199", (s, n) -> Build.orElse(s, 0, 5), FULL);
    }

    private void sizeByPart() {
        on("SIZE: 1 and those of its parts; 200 at most (part)");
        for (int kind = 6; kind <= 8; kind++) {
            x = great();
            int whole = Build.whole(x, kind, 0.5);
            check.due("200, kind " + kind, x.part(whole, 6), FULL);
            check.due("it has none", x.about(whole, 1), 0);
            check.due("198, kind " + kind, x.part(whole, 4), 1);
            check.due("2 more, kind " + kind, x.part(whole, 1), FULL);
            check.due("1 more, kind " + kind, x.part(whole, 0), 2);
            check.due("its SIZE", x.about(whole, 2), 200);
            check.due("1 too many, kind " + kind, x.part(whole, 0), FULL);
            check.due("its parts", x.about(whole, 1), 2);
            check.due("its SIZE still", x.about(whole, 2), 200);
            int second = Build.whole(x, kind, 0.5);
            check.due("199, kind " + kind, x.part(second, 5), 1);
            check.due("199 and a CONSTANT, kind " + kind, x.part(second, 0), FULL);
        }
        State.GREAT.dueUnchanged(check, "part(8, 6)", (s, n) -> s.part(8, 6), FULL);
        State.GREAT.dueUnchanged(check, "part(7, 0)", (s, n) -> s.part(7, 0), FULL);
    }

    private void sizeOfRepeated() {
        onOne("1 and those of its parts (one that is a part often counts as often)");
        int two = Build.orElse(x, 0, 0);
        check.due("SIZE", x.about(two, 2), 3);
        int three = Build.sum(x, two, 0, two);
        check.due("SIZE", x.about(three, 2), 8);
        check.due("parts", x.about(three, 1), 3);
        check.dueDouble("score", x.score(three, 0), 3.0);
        check.due("ASKED, the ELSES without their y", x.told(2), 6);
    }

    private void formulaInOrder() {
        on("Of several refusals the first one here: BAD, FULL (formula)");
        State many = State.MANY;
        many.dueUnchanged(check, "the 61st, kind 14", (s, n) -> Build.any(s, 14, 0, 0), BAD);
        many.dueUnchanged(check, "the 61st, kind -1", (s, n) -> Build.any(s, -1, 0, 0), BAD);
        many.dueUnchanged(check, "the 61st, FIELD 4", (s, n) -> Build.any(s, 1, 4, 0), BAD);
        many.dueUnchanged(check, "the 61st, COLUMN -1", (s, n) -> Build.any(s, 5, -1, 0), BAD);
        many.dueUnchanged(check, "the 61st, x = 60", (s, n) -> Build.any(s, 9, 60, 0), BAD);
        many.dueUnchanged(check, "the 61st, y = 60", (s, n) -> Build.any(s, 13, 0, 60), BAD);
        many.dueUnchanged(check, "the 61st, p below 0", (s, n) -> Build.of(s, 3, 0, 0, -1.0, 0.0), BAD);
        many.dueUnchanged(check, "the 61st, q NaN", (s, n) -> Build.of(s, 11, 0, 0, 1.0, NAN), BAD);
        State great = State.GREAT;
        great.dueUnchanged(check, "SIZE 201, p below 0", (s, n) -> Build.boost(s, -1.0, 6), BAD);
        great.dueUnchanged(check, "SIZE 201, q 0", (s, n) -> Build.of(s, 10, 6, 0, 1.0, 0.0), BAD);
        great.dueUnchanged(check, "SIZE 201, y none", (s, n) -> Build.orElse(s, 6, n), BAD);
        great.dueUnchanged(check, "SIZE 201, x none", (s, n) -> Build.orElse(s, n, 6), BAD);
    }

    private void eightParts() {
        onOne("FULL: 8 parts");
        for (int kind = 6; kind <= 8; kind++) {
            int whole = Build.whole(x, kind, 0.5);
            for (int k = 1; k <= 8; k++) check.due("part " + k + " of kind " + kind, x.part(whole, 0), k);
            check.due("the ninth of kind " + kind, x.part(whole, 0), FULL);
            check.due("about: parts", x.about(whole, 1), 8);
            check.due("about: SIZE", x.about(whole, 2), 9);
        }
        State.MANY.dueUnchanged(check, "the ninth", (s, n) -> s.part(59, 49), FULL);
        State.IN_USE.dueUnchanged(check, "the ninth", (s, n) -> s.part(8, 0), FULL);
    }

    private void partsOfKinds() {
        on("A FORMULA of the kinds 6 to 8 gets a part more");
        for (int kind = 0; kind <= 13; kind++) {
            ScoreFormulas one = new ScoreFormulas();
            Build.constant(one, 1.0);
            int whole = Build.any(one, kind, 0, 0);
            boolean gathers = kind >= 6 && kind <= 8;
            int parts = one.about(whole, 1);
            check.due("a part of kind " + kind, one.part(whole, 0), gathers ? 1 : BAD);
            check.due("how many, kind " + kind, one.about(whole, 1), gathers ? 1 : parts);
            if (gathers) continue;
            int k = kind;
            State other = new State("one of kind " + kind, () -> {
                ScoreFormulas made = new ScoreFormulas();
                Build.constant(made, 1.0);
                Build.any(made, k, 0, 0);
                return made;
            });
            other.dueUnchanged(check, "part(1, 0)", (s, n) -> s.part(1, 0), BAD);
        }
    }

    private void partToldAhead() {
        on("one that was told ahead");
        for (int f = 0; f < 4; f++) Build.sum(x);
        check.due("the one just ahead", x.part(2, 1), 1);
        check.due("the first", x.part(2, 0), 2);
        check.due("itself", x.part(2, 2), BAD);
        check.due("the next one", x.part(2, 3), BAD);
        check.due("the first of itself", x.part(0, 0), BAD);
        check.due("how many", x.about(2, 1), 2);
        State.IN_USE.dueUnchanged(check, "itself", (s, n) -> s.part(15, 15), BAD);
        State.MANY.dueUnchanged(check, "the next one", (s, n) -> s.part(57, 58), BAD);
    }

    private void noSuchPart() {
        on("BAD (there is no such thing)");
        for (int number : new int[] {-1, 60, MIN, MAX}) {
            State.dueBad(check, "part(" + number + ", 0)", (s, n) -> s.part(number, 0));
            State.dueBad(check, "part(n - 1, " + number + ")", (s, n) -> s.part(n - 1, number));
        }
        State.dueBad(check, "part(n, n - 1)", (s, n) -> s.part(n, n - 1));
        State.dueBad(check, "part(n - 1, n)", (s, n) -> s.part(n - 1, n));
        State.dueBad(check, "part(n + 1, n)", (s, n) -> s.part(n + 1, n));
    }

    private void partOfAnother() {
        on("STATE: the FORMULA that would get it is a part of another one already");
        for (int kind = 6; kind <= 13; kind++) {
            int k = kind;
            State within = new State("a SUM in a FORMULA of kind " + kind, () -> {
                ScoreFormulas made = new ScoreFormulas();
                Build.constant(made, 1.0);
                Build.sum(made, 0);
                int outer = Build.any(made, k, 1, 0);
                if (k <= 8) made.part(outer, 1);
                return made;
            });
            within.dueUnchanged(check, "part(1, 0)", (s, n) -> s.part(1, 0), STATE);
        }
        State second = new State("a SUM as y of an ELSE", () -> {
            ScoreFormulas made = new ScoreFormulas();
            Build.constant(made, 1.0);
            Build.sum(made);
            Build.orElse(made, 0, 1);
            return made;
        });
        second.dueUnchanged(check, "part(1, 0)", (s, n) -> s.part(1, 0), STATE);
        onOne("STATE: the FORMULA that would get it is a part of another one already");
        Build.sum(x);
        Build.sum(x);
        check.due("before it is a part", x.part(1, 0), 1);
        x.part(2, 1);
        check.due("as soon as it is one", x.part(1, 0), STATE);
        check.due("its whole is none", x.part(2, 0), 2);
    }

    private void thePartMayBe() {
        onOne("the part may be");
        int inner = Build.sum(x, 0);
        int outer = Build.sum(x, inner);
        int third = Build.sum(x);
        check.due("a part of another one", x.part(third, inner), 1);
        check.due("a part of this one", x.part(third, inner), 2);
        check.due("a whole that has a part", x.part(third, outer), 3);
        check.due("x of another one", Build.floor(x, inner), 4);
        check.due("x and y of one", Build.orElse(x, 4, 4), 5);
    }

    private void refusedIsNoPart() {
        on("they change nothing (what a refused call names is no part)");
        x = great();
        int whole = Build.sum(x, 4, 0);
        check.due("as a part, SIZE", x.part(Build.sum(x, 5), whole), FULL);
        check.due("as x, SIZE", Build.floor(x, whole), FULL);
        check.due("as y, SIZE", Build.orElse(x, 0, whole), FULL);
        check.due("as x, q 0", Build.of(x, 11, whole, 0, 1.0, 0.0), BAD);
        // Were it a part, STATE would go before FULL.
        check.due("it still is no part", x.part(whole, 0), FULL);
    }

    private void partInOrder() {
        on("Of several refusals the first one here: BAD, STATE, FULL (part)");
        State full = new State("a part with 8 parts", () -> {
            ScoreFormulas made = new ScoreFormulas();
            Build.constant(made, 1.0);
            Build.sum(made, 0, 0, 0, 0, 0, 0, 0, 0);
            Build.sum(made, 1);
            Build.sum(made, 0, 0, 0, 0, 0, 0, 0, 0);
            return made;
        });
        full.dueUnchanged(check, "STATE before 8 parts", (s, n) -> s.part(1, 0), STATE);
        full.dueUnchanged(check, "BAD before STATE, no such part", (s, n) -> s.part(1, -1), BAD);
        full.dueUnchanged(check, "BAD before STATE, itself", (s, n) -> s.part(1, 1), BAD);
        full.dueUnchanged(check, "BAD before STATE, told behind", (s, n) -> s.part(1, 2), BAD);
        full.dueUnchanged(check, "BAD before 8 parts, no such part", (s, n) -> s.part(3, 4), BAD);
        full.dueUnchanged(check, "BAD before 8 parts, itself", (s, n) -> s.part(3, 3), BAD);
        State great = new State("a part, and one of SIZE 200", () -> {
            ScoreFormulas made = great();
            Build.sum(made, 5);
            Build.sum(made, 0);
            Build.floor(made, 8);
            Build.floor(made, 0);
            return made;
        });
        great.dueUnchanged(check, "BAD before SIZE", (s, n) -> s.part(7, 8), BAD);
        great.dueUnchanged(check, "BAD before SIZE, another kind", (s, n) -> s.part(10, 6), BAD);
        great.dueUnchanged(check, "STATE before SIZE", (s, n) -> s.part(8, 6), STATE);
        great.dueUnchanged(check, "SIZE alone", (s, n) -> s.part(7, 0), FULL);
        State otherKind = new State("a FLOOR in a FLOOR", () -> {
            ScoreFormulas made = new ScoreFormulas();
            Build.constant(made, 1.0);
            Build.floor(made, 0);
            Build.floor(made, 1);
            return made;
        });
        otherKind.dueUnchanged(check, "BAD before STATE, another kind", (s, n) -> s.part(1, 0), BAD);
    }

    private void aboutBounds() {
        on("about: BAD");
        for (int what : new int[] {-1, 12, 13, MIN, MAX}) State.dueBad(check, "about(0, " + what + ")", (s, n) -> s.about(0, what));
        for (int number : new int[] {-1, 60, MIN, MAX}) {
            State.dueBad(check, "about(" + number + ", 0)", (s, n) -> s.about(number, 0));
            State.dueBad(check, "about(" + number + ", 11)", (s, n) -> s.about(number, 11));
        }
        State.dueBad(check, "about(n, 0)", (s, n) -> s.about(n, 0));
        for (int number = 0; number < 60; number++) Build.counted(x, 3);
        check.due("about(59, 0)", x.about(59, 0), 1);
        check.due("about(59, 11)", x.about(59, 11), 1);
        check.due("about(0, 7)", x.about(0, 7), 1);
    }

    private void aboutCounts() {
        onOne("0 its kind, 1 how many parts, 2 its SIZE");
        for (int kind = 0; kind <= 13; kind++) {
            int made = Build.any(x, kind, 0, 0);
            int parts = kind < 9 ? 0 : kind == 13 ? 2 : 1;
            check.due("kind", x.about(made, 0), kind);
            check.due("parts of kind " + kind, x.about(made, 1), parts);
            check.due("SIZE of kind " + kind, x.about(made, 2), 1 + parts);
        }
    }

    private void safeConstants() {
        on("SAFE: 0 if p is not below 0");
        double[] safe = {0.0, -0.0, LEAST, 1.0, INF, NAN};
        double[] not = {-LEAST, -1.0, -MOST, -INF};
        for (double p : safe) check.due("CONSTANT " + p, x.about(Build.constant(x, p), 3), 1);
        for (double p : not) check.due("CONSTANT " + p, x.about(Build.constant(x, p), 3), 0);
    }

    private void safeKinds() {
        on("SAFE: 1 to 4, 6 to 11; 12 if x is; 13 if both are");
        int below = Build.constant(x, -LEAST);
        int zero = Build.constant(x, -0.0);
        for (int kind = 1; kind <= 4; kind++) check.due("kind " + kind, x.about(Build.any(x, kind, 3, 0), 3), 1);
        check.due("COLUMN", x.about(Build.column(x, 3), 3), 0);
        for (int kind = 6; kind <= 8; kind++) {
            int whole = Build.whole(x, kind, 0.5);
            check.due("without parts, kind " + kind, x.about(whole, 3), 1);
            x.part(whole, below);
            check.due("of what is not, kind " + kind, x.about(whole, 3), 1);
        }
        for (int kind = 9; kind <= 11; kind++) check.due("of what is not, kind " + kind, x.about(Build.any(x, kind, below, 0), 3), 1);
        for (int a : new int[] {below, zero}) {
            check.due("FLOOR of " + a, x.about(Build.floor(x, a), 3), a == zero ? 1 : 0);
            for (int b : new int[] {below, zero}) {
                check.due("ELSE " + a + ", " + b, x.about(Build.orElse(x, a, b), 3), a == zero && b == zero ? 1 : 0);
            }
        }
    }

    private void dueLeans(String what, int formula, String fields) {
        for (int field = 0; field < 4; field++) check.due(what + " on " + field, x.about(formula, 4 + field), fields.charAt(field) - '0');
    }

    private void dueRises(String what, int formula, String fields) {
        for (int field = 0; field < 4; field++) check.due(what + " with " + field, x.about(formula, 8 + field), fields.charAt(field) - '0');
    }

    private void leans() {
        on("LEANS on a FIELD: 1 to 4 on theirs, 0 and 5 on none, others on what their parts do");
        String[] alone = {"1000", "0100", "0010", "0001"};
        for (int kind = 1; kind <= 4; kind++) {
            for (int field = 0; field < 4; field++) dueLeans("kind " + kind, Build.any(x, kind, field, 0), alone[field]);
        }
        int first = 0;
        int last = 3;
        for (int place = 0; place < 4; place++) {
            dueLeans("CONSTANT", Build.of(x, 0, place, 0, 1.0, 0.0), "0000");
            dueLeans("COLUMN", Build.column(x, place), "0000");
        }
        for (int kind = 6; kind <= 8; kind++) {
            dueLeans("without parts, kind " + kind, Build.whole(x, kind, 0.5), "0000");
            dueLeans("of two, kind " + kind, Build.whole(x, kind, 0.5, last, first), "1001");
        }
        for (int kind = 9; kind <= 12; kind++) dueLeans("kind " + kind, Build.any(x, kind, last, first), "0001");
        dueLeans("ELSE", Build.orElse(x, first, last), "1001");
        dueLeans("ELSE", Build.orElse(x, last, last), "0001");
    }

    private void risesWithoutLeaning() {
        on("RISES: if it does not LEAN on it");
        int column = Build.column(x, 0);
        int below = Build.constant(x, -1.0);
        dueRises("COLUMN", column, "1111");
        dueRises("CONSTANT", below, "1111");
        for (int kind = 6; kind <= 8; kind++) {
            dueRises("without parts, kind " + kind, Build.whole(x, kind, 0.5), "1111");
            dueRises("of what is not SAFE, kind " + kind, Build.whole(x, kind, 0.5, column, below), "1111");
        }
        for (int kind = 9; kind <= 13; kind++) dueRises("kind " + kind, Build.any(x, kind, column, below), "1111");
        for (int field = 0; field < 4; field++) dueRises("COUNTED " + field, Build.counted(x, field), "1111");
    }

    private void risesOfProducts() {
        on("7 if all do and are SAFE");
        int counted = Build.counted(x, 1);
        int zero = Build.constant(x, -0.0);
        int below = Build.constant(x, -LEAST);
        dueRises("one", Build.whole(x, Build.PRODUCT, 0.0, counted), "1111");
        dueRises("SAFE", Build.whole(x, Build.PRODUCT, 0.0, counted, zero), "1111");
        dueRises("one is not SAFE", Build.whole(x, Build.PRODUCT, 0.0, counted, below), "1011");
        dueRises("the first is not SAFE", Build.whole(x, Build.PRODUCT, 0.0, below, counted), "1011");
        int near = Build.any(x, 11, counted, 0);
        dueRises("one does not rise", Build.whole(x, Build.PRODUCT, 0.0, counted, near), "1011");
        int sum = Build.sum(x, counted, below);
        int best = Build.whole(x, Build.BEST, 1.0, below, counted);
        dueRises("a SUM need not be of SAFE ones", sum, "1111");
        dueRises("a BEST need not be of SAFE ones", best, "1111");
        dueRises("and is SAFE itself", Build.whole(x, Build.PRODUCT, 0.0, sum, best), "1111");
        int product = Build.whole(x, Build.PRODUCT, 0.0, counted, below);
        dueRises("a SUM of what does not rise", Build.sum(x, counted, product), "1011");
    }

    private void neverRises() {
        on("9, 12 if x does; never 10, 11, 13");
        String[] not = {"0111", "1011", "1101", "1110"};
        for (int field = 0; field < 4; field++) {
            x = new ScoreFormulas();
            int counted = Build.counted(x, field);
            for (int kind = 9; kind <= 13; kind++) {
                String want = kind == 9 || kind == 12 ? "1111" : not[field];
                int made = Build.any(x, kind, counted, counted);
                dueRises("kind " + kind, made, want);
                dueRises("BOOST of kind " + kind, Build.boost(x, 0.0, made), want);
                dueRises("FLOOR of kind " + kind, Build.floor(x, made), want);
            }
            int one = Build.constant(x, 1.0);
            dueRises("ELSE, x alone LEANS", Build.orElse(x, counted, one), not[field]);
            dueRises("ELSE, y alone LEANS", Build.orElse(x, one, counted), not[field]);
        }
    }

    private void provedAnew() {
        on("others on what their parts do (as each part comes)");
        int first = Build.counted(x, 0);
        int last = Build.counted(x, 3);
        int below = Build.constant(x, -1.0);
        int product = Build.whole(x, Build.PRODUCT, 0.0);
        String[] leans = {"1000", "1001", "1001"};
        String[] rises = {"1111", "1111", "0110"};
        int[] parts = {first, last, below};
        for (int k = 0; k < 3; k++) {
            x.part(product, parts[k]);
            dueLeans("part " + k, product, leans[k]);
            dueRises("part " + k, product, rises[k]);
            check.due("SIZE", x.about(product, 2), 2 + k);
            check.due("SAFE", x.about(product, 3), 1);
        }
    }

    private void partOfBounds() {
        onOne("Part k of a FORMULA. BAD: none such");
        Build.constant(x, 2.0);
        for (int kind = 0; kind <= 13; kind++) {
            int made = Build.any(x, kind, 0, 1);
            int parts = kind < 9 ? 0 : kind == 13 ? 2 : 1;
            for (int k = 0; k < parts; k++) check.due("part " + k + " of kind " + kind, x.partOf(made, k), k);
            check.due("part " + parts + " of kind " + kind, x.partOf(made, parts), BAD);
            check.due("part -1 of kind " + kind, x.partOf(made, -1), BAD);
        }
        int whole = Build.sum(x, 0, 1, 1, 0, 3, 3, 0, 5);
        int[] parts = {0, 1, 1, 0, 3, 3, 0, 5};
        for (int k = 0; k < 8; k++) check.due("part " + k, x.partOf(whole, k), parts[k]);
        for (int k : new int[] {-1, 8, MIN, MAX}) State.dueBad(check, "partOf(n - 1, " + k + ")", (s, n) -> s.partOf(n - 1, k));
        for (int number : new int[] {-1, 60, MIN, MAX}) State.dueBad(check, "partOf(" + number + ", 0)", (s, n) -> s.partOf(number, 0));
        State.dueBad(check, "partOf(n, 0)", (s, n) -> s.partOf(n, 0));
    }

    private void forgetCounts() {
        on("No FORMULAS: how many there were");
        check.due("none", x.forget(), 0);
        Build.constant(x, 1.0);
        check.due("one", x.forget(), 1);
        check.due("again", x.forget(), 0);
        for (int number = 0; number < 60; number++) check.due("a number", Build.constant(x, 1.0), number);
        Build.constant(x, 1.0);
        check.due("60, and a refused one", x.forget(), 60);
        for (int number = 0; number < 60; number++) check.due("a number anew", Build.constant(x, 1.0), number);
        check.due("the 61st anew", Build.constant(x, 1.0), FULL);
        check.due("60 again", x.forget(), 60);
    }

    /** Behind forget() all is as with a new object: nothing stays of parts, SIZES and proofs. */
    private void forgetAll() {
        on("No FORMULAS");
        String difference = Sight.difference(Sight.of(() -> secondRound(new ScoreFormulas())), Sight.of(() -> {
            ScoreFormulas used = new ScoreFormulas();
            Build.counted(used, 0);
            for (int kind = 6; kind <= 8; kind++) Build.whole(used, kind, 0.5, 0, 0, 0, 0, 0, 0, 0, 0);
            for (int kind = 9; kind <= 13; kind++) Build.any(used, kind, kind - 8, kind - 7);
            used.forget();
            return secondRound(used);
        }));
        check.due("FORMULAS anew: " + difference, difference == null ? 0 : 1, 0);
        x = great();
        x.forget();
        check.due("part(1, 0)", x.part(1, 0), BAD);
        check.due("score(0, 0)", x.score(0, 0), 0);
        check.due("told(2), without", x.told(2), 0);
        check.due("top(0, 0)", x.top(0, 0), BAD);
        check.due("about(0, 0)", x.about(0, 0), BAD);
        check.due("partOf(1, 0)", x.partOf(1, 0), BAD);
        check.due("x = 0", Build.floor(x, 0), BAD);
    }

    private static ScoreFormulas secondRound(ScoreFormulas x) {
        Build.constant(x, -1.0);
        Build.column(x, 1);
        for (int kind = 6; kind <= 8; kind++) Build.whole(x, kind, 0.5);
        Build.floor(x, 1);
        Build.orElse(x, 2, 1);
        return x;
    }

    private void forgetLeavesTheRest() {
        on("forget(): No FORMULAS (nothing else)");
        x.tell(3, 1, 9, 20);
        x.tell(4, 1, 1, 10);
        x.column(3, 2, Check.bits(-1.0));
        x.given(0, Check.bits(4.0));
        Build.sum(x, Build.column(x, 2));
        x.score(1, 3);
        x.forget();
        check.due("told(0), of the latest score()", x.told(0), 3);
        check.due("told(1), of the latest score()", x.told(1), 1);
        check.due("told(2), of the latest score()", x.told(2), 2);
        check.dueDouble("average(0)", x.average(0), 4.0);
        check.dueDouble("average(1)", x.average(1), 15.0);
        Build.counted(x, 1);
        Build.column(x, 2);
        check.dueDouble("COUNT", x.score(0, 3), 9.0);
        check.dueDouble("COLUMN", x.score(1, 3), -1.0);
    }

    private void looking() {
        on("about, partOf: only tell");
        for (int what = 0; what < 12; what++) {
            int w = what;
            State.dueToChangeNothing(check, "about(n - 1, " + what + ")", (s, n) -> s.about(n - 1, w));
        }
        State.dueToChangeNothing(check, "partOf(6, 0)", (s, n) -> s.partOf(6, 0));
    }
}
