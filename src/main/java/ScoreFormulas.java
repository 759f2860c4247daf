/** Formulas of scores, worked for objects; ../shared/DOC.md tells what each call does. */
public final class ScoreFormulas {
    public static final int BAD = -1, STATE = -2, FULL = -3, NONE = -9;

    private static final int OBJECTS = 40, FIELDS = 4, COLUMNS = 4;
    private static final int MOST_COUNT = 1000, MOST_LENGTH = 100000;
    private static final int MOST_FORMULAS = 60, MOST_PARTS = 8, MOST_SIZE = 200;
    private static final int MISSING = 1, NO_NUMBER = 2, BELOW = 3;
    private static final int TOLD_FAILURE = 0, TOLD_CULPRIT = 1, TOLD_ASKED = 2, TOLD_CAUGHT = 3;
    private static final int TOLD_DEEPEST = 4, TOLD_ALL = 5;

    private final Shelf shelf;
    private final Scorer scorer;
    private final Formula[] formulas;
    private int formulaCount;
    private final int[] lastScore;
    private final double[] ranked;
    private final boolean[] rankFails;

    public ScoreFormulas() {
        shelf = new Shelf();
        scorer = new Scorer(shelf);
        formulas = new Formula[MOST_FORMULAS];
        for (int number = 0; number < MOST_FORMULAS; number++) {
            formulas[number] = new Formula(number);
        }
        lastScore = new int[TOLD_ALL];
        lastScore[TOLD_CULPRIT] = NONE;
        ranked = new double[OBJECTS];
        rankFails = new boolean[OBJECTS];
    }

    public int tell(int object, int field, int count, int length) {
        if (!isIn(object, OBJECTS) || !isIn(field, FIELDS)) return BAD;
        if (!isIn(count, MOST_COUNT + 1) || !isIn(length, MOST_LENGTH + 1)) return BAD;
        shelf.put(object, field, count, length);
        return 0;
    }

    public int column(int object, int column, long bits) {
        if (!isIn(object, OBJECTS) || !isIn(column, COLUMNS)) return BAD;
        shelf.fillColumn(object, column, bits);
        return 0;
    }

    public int given(int field, long bits) {
        if (!isIn(field, FIELDS)) return BAD;
        if (!Doubles.isNumber(bits)) {
            shelf.giveNoAverage(field);
            return 0;
        }
        double average = Doubles.fromBits(bits);
        if (!(average > 0.0)) return BAD;
        shelf.giveAverage(field, average);
        return 0;
    }

    public long average(int field) {
        if (!isIn(field, FIELDS)) return 0L;
        return shelf.hasAverage(field) ? Doubles.toBits(shelf.averageOf(field)) : Doubles.NAN_BITS;
    }

    public int packed(int length, int what) {
        if (!isIn(length, MOST_LENGTH + 1) || !isIn(what, 2)) return BAD;
        int code = Packing.codeOf(length);
        return what == 0 ? code : Packing.valueOf(code);
    }

    public int formula(int kind, int x, int y, long p, long q) {
        if (!isIn(kind, Kinds.ALL) || !placesAreRight(kind, x, y) || !Kinds.takes(kind, p, q)) return BAD;
        if (formulaCount >= MOST_FORMULAS) return FULL;
        Formula first = Kinds.hasX(kind) ? formulas[x] : null;
        Formula second = kind == Kinds.ELSE ? formulas[y] : null;
        if (1 + sizeOf(first) + sizeOf(second) > MOST_SIZE) return FULL;
        Formula made = formulas[formulaCount];
        made.begin(kind, x, p, q);
        if (first != null) made.addPart(first);
        if (second != null) made.addPart(second);
        formulaCount++;
        return made.number;
    }

    public int part(int formula, int part) {
        if (!isFormula(formula) || !isFormula(part) || part >= formula) return BAD;
        Formula whole = formulas[formula];
        Formula added = formulas[part];
        if (!Kinds.gathers(whole.kind)) return BAD;
        if (whole.isPart) return STATE;
        if (whole.partCount >= MOST_PARTS || whole.size + added.size > MOST_SIZE) return FULL;
        whole.addPart(added);
        return whole.partCount;
    }

    public long score(int formula, int object) {
        if (!isFormula(formula) || !isIn(object, OBJECTS)) return 0L;
        double value = scorer.valueOf(formulas[formula], object);
        lastScore[TOLD_FAILURE] = scorer.failure;
        lastScore[TOLD_CULPRIT] = scorer.culprit;
        lastScore[TOLD_ASKED] = scorer.asked;
        lastScore[TOLD_CAUGHT] = scorer.caught;
        lastScore[TOLD_DEEPEST] = scorer.deepest;
        return scorer.failure == 0 ? Doubles.toBits(value) : 0L;
    }

    public int told(int what) {
        return isIn(what, TOLD_ALL) ? lastScore[what] : BAD;
    }

    public int about(int formula, int what) {
        if (!isFormula(formula) || !isIn(what, 4 + 2 * FIELDS)) return BAD;
        Formula asked = formulas[formula];
        if (what == 0) return asked.kind;
        if (what == 1) return asked.partCount;
        if (what == 2) return asked.size;
        if (what == 3) return asked.safe ? 1 : 0;
        if (what < 4 + FIELDS) return asked.leans >> (what - 4) & 1;
        return asked.rises >> (what - 4 - FIELDS) & 1;
    }

    public int partOf(int formula, int k) {
        if (!isFormula(formula) || !isIn(k, formulas[formula].partCount)) return BAD;
        return formulas[formula].parts[k].number;
    }

    public int top(int formula, int k) {
        if (!isFormula(formula) || !isIn(k, OBJECTS)) return BAD;
        for (int object = 0; object < OBJECTS; object++) {
            ranked[object] = scorer.valueOf(formulas[formula], object);
            rankFails[object] = scorer.failure != 0;
        }
        for (int object = 0; object < OBJECTS; object++) {
            if (howManyAheadOf(object) == k) return object;
        }
        return BAD;
    }

    public int clear() {
        shelf.reset();
        return 0;
    }

    public int forget() {
        int were = formulaCount;
        formulaCount = 0;
        return were;
    }

    private static boolean isIn(int number, int bound) {
        return number >= 0 && number < bound;
    }

    private boolean isFormula(int number) {
        return isIn(number, formulaCount);
    }

    private boolean placesAreRight(int kind, int x, int y) {
        if (Kinds.hasField(kind)) return isIn(x, FIELDS);
        if (kind == Kinds.COLUMN) return isIn(x, COLUMNS);
        if (kind == Kinds.ELSE && !isFormula(y)) return false;
        return !Kinds.hasX(kind) || isFormula(x);
    }

    private static int sizeOf(Formula formula) {
        return formula == null ? 0 : formula.size;
    }

    private int howManyAheadOf(int object) {
        int ahead = 0;
        for (int other = 0; other < OBJECTS; other++) {
            if (goesAhead(other, object)) ahead++;
        }
        return ahead;
    }

    private boolean goesAhead(int one, int other) {
        if (rankFails[one] != rankFails[other]) return rankFails[other];
        // What failed has no VALUE: all that failed are alike.
        if (rankFails[one] || ranked[one] == ranked[other]) return one < other;
        return ranked[one] > ranked[other];
    }

    /** What each kind of FORMULA has. */
    private static final class Kinds {
        static final int CONSTANT = 0, COUNTED = 1, ROOTED = 2, SATURATED = 3, NORMED = 4, COLUMN = 5;
        static final int SUM = 6, PRODUCT = 7, BEST = 8, BOOST = 9, DECAY = 10, NEAR = 11, FLOOR = 12, ELSE = 13;
        static final int ALL = 14;

        static boolean hasField(int kind) {
            return kind >= COUNTED && kind <= NORMED;
        }

        static boolean gathers(int kind) {
            return kind >= SUM && kind <= BEST;
        }

        static boolean hasX(int kind) {
            return kind >= BOOST && kind <= ELSE;
        }

        static boolean failsBelow(int kind) {
            return kind >= SUM && kind <= BOOST;
        }

        static boolean takes(int kind, long p, long q) {
            switch (kind) {
                case SATURATED:
                case BOOST:
                    return isNotBelow(p);
                case NORMED:
                    return isNotBelow(p) && isShare(q);
                case BEST:
                    return isShare(p);
                case DECAY:
                case NEAR:
                    return Doubles.isNumber(p) && isAbove(q);
                default:
                    return true;
            }
        }

        private static boolean isNotBelow(long bits) {
            return Doubles.isNumber(bits) && Doubles.fromBits(bits) >= 0.0;
        }

        private static boolean isShare(long bits) {
            return isNotBelow(bits) && Doubles.fromBits(bits) <= 1.0;
        }

        private static boolean isAbove(long bits) {
            return Doubles.isNumber(bits) && Doubles.fromBits(bits) > 0.0;
        }
    }

    /**
     * One FORMULA. What it LEANS on and RISES with stands as a bit for each FIELD. A part never
     * changes any more, so that what is told of a whole only changes when it gets a part itself.
     */
    private static final class Formula {
        private static final int ALL_FIELDS = (1 << FIELDS) - 1;

        final int number;
        int kind;
        int place;
        boolean pIsNumber;
        double p;
        double q;
        final Formula[] parts;
        int partCount;
        boolean isPart;
        int size;
        boolean safe;
        int leans;
        int rises;
        private boolean partsSafe;
        private int partsRise;

        Formula(int number) {
            this.number = number;
            parts = new Formula[MOST_PARTS];
        }

        void begin(int newKind, int x, long pBits, long qBits) {
            kind = newKind;
            place = x;
            pIsNumber = Doubles.isNumber(pBits);
            p = pIsNumber ? Doubles.fromBits(pBits) : 0.0;
            q = Doubles.isNumber(qBits) ? Doubles.fromBits(qBits) : 0.0;
            partCount = 0;
            isPart = false;
            size = 1;
            leans = Kinds.hasField(newKind) ? 1 << x : 0;
            partsSafe = true;
            partsRise = ALL_FIELDS;
            prove();
        }

        void addPart(Formula added) {
            parts[partCount] = added;
            partCount++;
            added.isPart = true;
            size += added.size;
            leans |= added.leans;
            partsSafe = partsSafe && added.safe;
            partsRise &= added.rises;
            prove();
        }

        private void prove() {
            safe = isSafe();
            rises = ALL_FIELDS & (~leans | risesByKind());
        }

        private boolean isSafe() {
            switch (kind) {
                case Kinds.CONSTANT:
                    return !(pIsNumber && p < 0.0);
                case Kinds.COLUMN:
                    return false;
                case Kinds.FLOOR:
                case Kinds.ELSE:
                    return partsSafe;
                default:
                    return true;
            }
        }

        private int risesByKind() {
            switch (kind) {
                case Kinds.PRODUCT:
                    return partsSafe ? partsRise : 0;
                case Kinds.DECAY:
                case Kinds.NEAR:
                case Kinds.ELSE:
                    return 0;
                default:
                    return partsRise;
            }
        }
    }

    /** All objects with their COUNTS, LENGTHS and COLUMNS, and the AVERAGES. */
    private static final class Shelf {
        private final int[] counts;
        private final double[] roots;
        private final int[] lengths;
        private final int[] lengthSums;
        private final int[] lengthsNotZero;
        private final boolean[] columnFilled;
        private final double[] columns;
        private final boolean[] averageGiven;
        private final double[] averages;

        Shelf() {
            counts = new int[OBJECTS * FIELDS];
            roots = new double[OBJECTS * FIELDS];
            lengths = new int[OBJECTS * FIELDS];
            lengthSums = new int[FIELDS];
            lengthsNotZero = new int[FIELDS];
            columnFilled = new boolean[OBJECTS * COLUMNS];
            columns = new double[OBJECTS * COLUMNS];
            averageGiven = new boolean[FIELDS];
            averages = new double[FIELDS];
        }

        void put(int object, int field, int count, int length) {
            int at = object * FIELDS + field;
            int value = Packing.valueOf(Packing.codeOf(length));
            lengthSums[field] += value - lengths[at];
            lengthsNotZero[field] += (value == 0 ? 0 : 1) - (lengths[at] == 0 ? 0 : 1);
            lengths[at] = value;
            counts[at] = count;
            roots[at] = Doubles.rootOf(count);
        }

        double countOf(int object, int field) {
            return (double) counts[object * FIELDS + field];
        }

        double rootOfCount(int object, int field) {
            return roots[object * FIELDS + field];
        }

        double lengthOf(int object, int field) {
            return (double) lengths[object * FIELDS + field];
        }

        void fillColumn(int object, int column, long bits) {
            int at = object * COLUMNS + column;
            columnFilled[at] = Doubles.isNumber(bits);
            columns[at] = columnFilled[at] ? Doubles.fromBits(bits) : 0.0;
        }

        boolean hasColumn(int object, int column) {
            return columnFilled[object * COLUMNS + column];
        }

        double columnOf(int object, int column) {
            return columns[object * COLUMNS + column];
        }

        void giveAverage(int field, double average) {
            averageGiven[field] = true;
            averages[field] = average;
        }

        void giveNoAverage(int field) {
            averageGiven[field] = false;
        }

        boolean hasAverage(int field) {
            return averageGiven[field] || lengthsNotZero[field] > 0;
        }

        /** Only for a FIELD that has one. */
        double averageOf(int field) {
            if (averageGiven[field]) return averages[field];
            int many = lengthsNotZero[field];
            return many > 0 ? (double) lengthSums[field] / (double) many : 0.0;
        }

        void reset() {
            for (int object = 0; object < OBJECTS; object++) {
                for (int field = 0; field < FIELDS; field++) put(object, field, 0, 0);
                for (int column = 0; column < COLUMNS; column++) fillColumn(object, column, Doubles.NAN_BITS);
            }
            for (int field = 0; field < FIELDS; field++) giveNoAverage(field);
        }
    }

    /** LENGTHS packed in a byte. */
    private static final class Packing {
        private static final int CODES = 256;

        static int valueOf(int code) {
            return code < 32 ? code : (32 + code % 32) << (code / 32 - 1);
        }

        static int codeOf(int length) {
            int code = 0;
            for (int step = CODES / 2; step > 0; step /= 2) {
                if (valueOf(code + step) <= length) code += step;
            }
            return code;
        }
    }

    /** Works a FORMULA for an object, and counts what happens meanwhile. */
    private static final class Scorer {
        int failure;
        int culprit;
        int asked;
        int caught;
        int deepest;
        private int object;
        private final Shelf shelf;
        private final Reckoner reckoner;
        private final double[] partValues;

        Scorer(Shelf shelf) {
            this.shelf = shelf;
            reckoner = new Reckoner();
            partValues = new double[MOST_FORMULAS * MOST_PARTS];
        }

        /** The VALUE, if failure is 0 then. */
        double valueOf(Formula formula, int newObject) {
            object = newObject;
            failure = 0;
            culprit = NONE;
            asked = 0;
            caught = 0;
            deepest = 0;
            return ask(formula, 1);
        }

        private double ask(Formula formula, int depth) {
            // Each part has a lesser number than its whole, so no depth is above the most FORMULAS.
            if (depth > MOST_FORMULAS) return fail(formula, NO_NUMBER);
            asked++;
            if (depth > deepest) deepest = depth;
            if (formula.kind == Kinds.ELSE) return askElse(formula, depth);
            int row = (depth - 1) * MOST_PARTS;
            for (int k = 0; k < formula.partCount; k++) {
                partValues[row + k] = ask(formula.parts[k], depth + 1);
                if (failure != 0) return 0.0;
            }
            reckoner.begin();
            return judge(formula, formula.partCount == 0 ? workAlone(formula) : workParts(formula, row));
        }

        private double askElse(Formula formula, int depth) {
            double value = ask(formula.parts[0], depth + 1);
            if (failure == 0) return value;
            caught++;
            failure = 0;
            culprit = NONE;
            return ask(formula.parts[1], depth + 1);
        }

        private double fail(Formula formula, int why) {
            failure = why;
            culprit = formula.number;
            return 0.0;
        }

        private double judge(Formula formula, double value) {
            if (reckoner.isLost()) return fail(formula, formula.kind == Kinds.COLUMN ? MISSING : NO_NUMBER);
            if (Kinds.failsBelow(formula.kind) && value < 0.0) return fail(formula, BELOW);
            return value;
        }

        private double workAlone(Formula formula) {
            switch (formula.kind) {
                case Kinds.CONSTANT:
                    return formula.pIsNumber ? formula.p : reckoner.lose();
                case Kinds.COUNTED:
                    return shelf.countOf(object, formula.place);
                case Kinds.ROOTED:
                    return shelf.rootOfCount(object, formula.place);
                case Kinds.SATURATED:
                    return saturated(shelf.countOf(object, formula.place), formula.p);
                case Kinds.NORMED:
                    return normed(formula);
                case Kinds.COLUMN:
                    return filled(formula.place);
                case Kinds.PRODUCT:
                    return 1.0;
                default:
                    return 0.0;
            }
        }

        private double workParts(Formula formula, int row) {
            double x = partValues[row];
            switch (formula.kind) {
                case Kinds.SUM:
                    return sum(row, formula.partCount);
                case Kinds.PRODUCT:
                    return product(row, formula.partCount);
                case Kinds.BEST:
                    return best(row, formula.partCount, formula.p);
                case Kinds.BOOST:
                    return reckoner.times(formula.p, x);
                case Kinds.DECAY:
                    return decay(x, formula.p, formula.q);
                case Kinds.NEAR:
                    return near(x, formula.p, formula.q);
                default:
                    return Doubles.floorOf(x);
            }
        }

        private double filled(int column) {
            return shelf.hasColumn(object, column) ? shelf.columnOf(object, column) : reckoner.lose();
        }

        private double saturated(double count, double p) {
            return reckoner.over(count, reckoner.plus(count, p));
        }

        private double normed(Formula formula) {
            int field = formula.place;
            if (!shelf.hasAverage(field)) return reckoner.lose();
            double count = shelf.countOf(object, field);
            double p = formula.p;
            double q = formula.q;
            double length = reckoner.over(shelf.lengthOf(object, field), shelf.averageOf(field));
            double norm = reckoner.plus(reckoner.minus(1.0, q), reckoner.times(q, length));
            double above = reckoner.times(count, reckoner.plus(p, 1.0));
            return reckoner.over(above, reckoner.plus(count, reckoner.times(p, norm)));
        }

        private double sum(int row, int count) {
            double sum = 0.0;
            for (int k = 0; k < count; k++) sum = reckoner.plus(sum, partValues[row + k]);
            return sum;
        }

        private double product(int row, int count) {
            double product = 1.0;
            for (int k = 0; k < count; k++) product = reckoner.times(product, partValues[row + k]);
            return product;
        }

        private double best(int row, int count, double share) {
            double most = partValues[row];
            double sum = 0.0;
            for (int k = 0; k < count; k++) {
                most = Doubles.greaterOf(most, partValues[row + k]);
                sum = reckoner.plus(sum, partValues[row + k]);
            }
            return reckoner.plus(most, reckoner.times(share, reckoner.minus(sum, most)));
        }

        private double decay(double x, double p, double q) {
            double away = Doubles.sizeOf(reckoner.minus(x, p));
            double value = reckoner.over(reckoner.minus(q, away), q);
            return value > 0.0 ? value : 0.0;
        }

        private double near(double x, double p, double q) {
            double r = reckoner.over(reckoner.minus(x, p), q);
            return reckoner.over(1.0, reckoner.plus(1.0, reckoner.times(r, r)));
        }
    }

    /**
     * Reckons with doubles, looking ahead for what would answer NaN: from there on until the next
     * beginning it is lost, as NaN goes through all that follows it, and what it answers is nothing.
     */
    private static final class Reckoner {
        private boolean lost;

        void begin() {
            lost = false;
        }

        boolean isLost() {
            return lost;
        }

        double lose() {
            lost = true;
            return 0.0;
        }

        double plus(double a, double b) {
            if (Doubles.isEndless(a) && Doubles.isEndless(b) && a != b) return lose();
            return a + b;
        }

        double minus(double a, double b) {
            if (Doubles.isEndless(a) && a == b) return lose();
            return a - b;
        }

        double times(double a, double b) {
            if (a == 0.0 && Doubles.isEndless(b) || b == 0.0 && Doubles.isEndless(a)) return lose();
            return a * b;
        }

        double over(double a, double b) {
            if (a == 0.0 && b == 0.0 || Doubles.isEndless(a) && Doubles.isEndless(b)) return lose();
            return a / b;
        }
    }

    /** What the Java library would do with doubles; none of them is ever NaN. */
    private static final class Doubles {
        static final long NAN_BITS = 0x7ff8000000000000L;
        private static final long SIGN = 0x8000000000000000L, ENDLESS = 0x7ff0000000000000L;
        private static final int FRACTION_BITS = 52, EXPONENTS = 0x7ff;
        private static final long LEAD = 1L << FRACTION_BITS;
        /** The exponent that stands in the bits of a double whose last bit counts 1. */
        private static final int EXPONENT_OF_WHOLES = 1075;

        static boolean isNumber(long bits) {
            return (bits & ~SIGN) <= ENDLESS;
        }

        static double fromBits(long bits) {
            int exponent = (int) (bits >>> FRACTION_BITS) & EXPONENTS;
            long fraction = bits & LEAD - 1;
            double size;
            if (exponent == 0) size = (double) fraction * powerOfTwo(1 - EXPONENT_OF_WHOLES);
            // The greatest exponent needs no case of its own: it goes over into the endless.
            else size = (double) (fraction + LEAD) * powerOfTwo(exponent - EXPONENT_OF_WHOLES);
            return bits < 0 ? -size : size;
        }

        static long toBits(double number) {
            long sign = number < 0.0 || isNegativeZero(number) ? SIGN : 0L;
            return isEndless(number) ? sign | ENDLESS : sign | bitsOfSize(sizeOf(number));
        }

        private static long bitsOfSize(double size) {
            double scaled = size;
            int exponent = EXPONENT_OF_WHOLES;
            for (int step = 512; step > 0; step /= 2) {
                if (scaled >= powerOfTwo(FRACTION_BITS + step)) {
                    scaled = scaled * powerOfTwo(-step);
                    exponent += step;
                }
            }
            // The least sizes need more than 1023 doublings: the greatest step comes twice.
            for (int twice = 1024; twice > 0; twice /= 2) {
                int step = twice > 512 ? 512 : twice;
                if (scaled < powerOfTwo(FRACTION_BITS + 1 - step) && exponent > step) {
                    scaled = scaled * powerOfTwo(step);
                    exponent -= step;
                }
            }
            // The lead bit adds the last 1 to the exponent, and is not there below the normal sizes.
            return ((long) (exponent - 1) << FRACTION_BITS) + (long) scaled;
        }

        private static double powerOfTwo(int exponent) {
            double power = 1.0;
            double factor = exponent < 0 ? 0.5 : 2.0;
            for (int left = exponent < 0 ? -exponent : exponent; left > 0; left /= 2) {
                if (left % 2 == 1) power = power * factor;
                factor = factor * factor;
            }
            return power;
        }

        static boolean isEndless(double number) {
            return number > 1.7976931348623157E308 || number < -1.7976931348623157E308;
        }

        private static boolean isNegativeZero(double number) {
            return number == 0.0 && 1.0 / number < 0.0;
        }

        static double sizeOf(double number) {
            return number < 0.0 ? -number : number;
        }

        static double greaterOf(double a, double b) {
            if (a == b) return isNegativeZero(a) ? b : a;
            return a > b ? a : b;
        }

        static double floorOf(double number) {
            // From the lead bit on all doubles are whole; a zero keeps its sign.
            if (number == 0.0 || sizeOf(number) >= (double) LEAD) return number;
            double whole = (double) (long) number;
            return whole > number ? whole - 1.0 : whole;
        }

        /** The root of 0 .. 1000, digit by digit: the nearest double. */
        static double rootOf(int square) {
            if (square <= 0) return 0.0;
            long root = 0;
            long rest = 0;
            int halvings = 0;
            // Wholes first, then as many digits more as give one behind a double's last.
            for (int digit = 0; digit < 60 && root < 2 * LEAD; digit++) {
                boolean isWhole = digit < 5;
                rest = rest * 4 + (isWhole ? square >> 2 * (4 - digit) & 3 : 0);
                long trial = root * 4 + 1;
                root = root * 2;
                if (rest >= trial) {
                    rest -= trial;
                    root++;
                }
                if (!isWhole) halvings++;
            }
            // No root lies just between two doubles: then its square would be no whole.
            return (double) ((root + 1) / 2) * powerOfTwo(1 - halvings);
        }
    }
}
