import java.util.ArrayList;
import java.util.Comparator;
import java.util.List;

/**
 * The document once more, written down as plainly as the Java library allows: with NaN, with
 * exceptions, and with nothing kept that can be found out anew.
 */
final class Model {
    private static final int BAD = -1, STATE = -2, FULL = -3, NONE = -9;

    private static final class Failing extends Exception {
        private static final long serialVersionUID = 1L;
        final int why;
        final int culprit;

        Failing(int why, int culprit) {
            super(null, null, false, false);
            this.why = why;
            this.culprit = culprit;
        }
    }

    private record Made(int kind, int x, double p, double q, List<Integer> parts) { }

    private final List<Made> made = new ArrayList<>();
    private int[][] counts = new int[40][4];
    private int[][] lengths = new int[40][4];
    private double[][] columns = new double[40][4];
    private double[] givens = new double[4];
    private int[] latest = {0, NONE, 0, 0, 0};
    private int asked, caught, deepest;

    Model() {
        clear();
    }

    private static boolean out(int number, int most) {
        return number < 0 || number > most;
    }

    private boolean none(int formula) {
        return out(formula, made.size() - 1);
    }

    int tell(int object, int field, int count, int length) {
        if (out(object, 39) || out(field, 3) || out(count, 1000) || out(length, 100000)) return BAD;
        counts[object][field] = count;
        lengths[object][field] = length;
        return 0;
    }

    int column(int object, int column, long bits) {
        if (out(object, 39) || out(column, 3)) return BAD;
        columns[object][column] = Double.longBitsToDouble(bits);
        return 0;
    }

    int given(int field, long bits) {
        double average = Double.longBitsToDouble(bits);
        if (out(field, 3) || average <= 0) return BAD;
        givens[field] = average;
        return 0;
    }

    private static int value(int v) {
        return v < 32 ? v : (int) ((32 + v % 32) * Math.pow(2, v / 32 - 1));
    }

    private static int code(int length) {
        int code = 255;
        while (value(code) > length) code--;
        return code;
    }

    private double averageOf(int field) {
        if (!Double.isNaN(givens[field])) return givens[field];
        double sum = 0;
        double many = 0;
        for (int[] of : lengths) {
            sum += value(code(of[field]));
            if (of[field] != 0) many++;
        }
        return sum / many;
    }

    long average(int field) {
        return out(field, 3) ? 0 : Double.doubleToLongBits(averageOf(field));
    }

    int packed(int length, int what) {
        if (out(length, 100000) || out(what, 1)) return BAD;
        return what == 0 ? code(length) : value(code(length));
    }

    int formula(int kind, int x, int y, long pBits, long qBits) {
        double p = Double.longBitsToDouble(pBits);
        double q = Double.longBitsToDouble(qBits);
        if (out(kind, 13) || kind >= 1 && kind <= 5 && out(x, 3)) return BAD;
        if (kind >= 9 && none(x) || kind == 13 && none(y)) return BAD;
        if ((kind == 3 || kind == 4 || kind == 9) && !(p >= 0)) return BAD;
        if (kind == 4 && !(q >= 0 && q <= 1)) return BAD;
        if (kind == 8 && !(p >= 0 && p <= 1)) return BAD;
        if ((kind == 10 || kind == 11) && (Double.isNaN(p) || !(q > 0))) return BAD;
        if (made.size() == 60) return FULL;
        Made one = new Made(kind, x, p, q, new ArrayList<>());
        if (kind >= 9) one.parts.add(x);
        if (kind == 13) one.parts.add(y);
        if (size(one) > 200) return FULL;
        made.add(one);
        return made.size() - 1;
    }

    private int size(Made one) {
        int size = 1;
        for (int part : one.parts) size += size(made.get(part));
        return size;
    }

    int part(int formula, int part) {
        if (none(formula) || none(part) || part >= formula) return BAD;
        Made whole = made.get(formula);
        if (whole.kind < 6 || whole.kind > 8) return BAD;
        for (Made other : made) if (other.parts.contains(formula)) return STATE;
        if (whole.parts.size() == 8 || size(whole) + size(made.get(part)) > 200) return FULL;
        whole.parts.add(part);
        return whole.parts.size();
    }

    private double ask(int number, int object, int depth) throws Failing {
        asked++;
        deepest = Math.max(deepest, depth);
        Made f = made.get(number);
        if (f.kind == 13) {
            try {
                return ask(f.parts.get(0), object, depth + 1);
            } catch (Failing failing) {
                caught++;
            }
            return ask(f.parts.get(1), object, depth + 1);
        }
        double[] parts = new double[f.parts.size()];
        for (int k = 0; k < parts.length; k++) parts[k] = ask(f.parts.get(k), object, depth + 1);
        double value = work(f, object, parts);
        if (Double.isNaN(value)) throw new Failing(f.kind == 5 ? 1 : 2, number);
        if (f.kind >= 6 && f.kind <= 9 && value < 0) throw new Failing(3, number);
        return value;
    }

    private double work(Made f, int object, double[] parts) {
        double p = f.p;
        double q = f.q;
        double count = f.kind >= 1 && f.kind <= 4 ? counts[object][f.x] : 0;
        double sum = 0.0;
        double product = 1.0;
        for (double part : parts) {
            sum += part;
            product *= part;
        }
        double most = parts.length == 0 ? 0.0 : parts[0];
        for (double part : parts) most = Math.max(most, part);
        double x = parts.length == 0 ? 0.0 : parts[0];
        double r = (x - p) / q;
        return switch (f.kind) {
            case 0 -> p;
            case 1 -> count;
            case 2 -> Math.sqrt(count);
            case 3 -> count / (count + p);
            case 4 -> (count * (p + 1)) / (count + p * ((1 - q) + q * (value(code(lengths[object][f.x])) / averageOf(f.x))));
            case 5 -> columns[object][f.x];
            case 6 -> sum;
            case 7 -> product;
            case 8 -> most + p * (sum - most);
            case 9 -> p * x;
            case 10 -> Math.max(0.0, (q - Math.abs(x - p)) / q);
            case 11 -> 1 / (1 + r * r);
            default -> Math.floor(x);
        };
    }

    private double begin(int formula, int object) throws Failing {
        asked = 0;
        caught = 0;
        deepest = 0;
        return ask(formula, object, 1);
    }

    long score(int formula, int object) {
        if (none(formula) || out(object, 39)) return 0;
        long answer = 0;
        int why = 0;
        int culprit = NONE;
        try {
            answer = Double.doubleToLongBits(begin(formula, object));
        } catch (Failing failing) {
            why = failing.why;
            culprit = failing.culprit;
        }
        latest = new int[] {why, culprit, asked, caught, deepest};
        return answer;
    }

    int told(int what) {
        return out(what, 4) ? BAD : latest[what];
    }

    private boolean safe(int number) {
        Made f = made.get(number);
        if (f.kind == 0) return !(f.p < 0);
        if (f.kind == 12) return safe(f.parts.get(0));
        if (f.kind == 13) return safe(f.parts.get(0)) && safe(f.parts.get(1));
        return f.kind != 5;
    }

    private boolean leans(int number, int field) {
        Made f = made.get(number);
        if (f.kind >= 1 && f.kind <= 4) return f.x == field;
        return f.parts.stream().anyMatch(part -> leans(part, field));
    }

    private boolean rises(int number, int field) {
        Made f = made.get(number);
        if (!leans(number, field)) return true;
        boolean all = f.parts.stream().allMatch(part -> rises(part, field));
        return switch (f.kind) {
            case 1, 2, 3, 4 -> true;
            case 6, 8, 9, 12 -> all;
            case 7 -> all && f.parts.stream().allMatch(this::safe);
            default -> false;
        };
    }

    int about(int formula, int what) {
        if (none(formula) || out(what, 11)) return BAD;
        Made f = made.get(formula);
        if (what == 0) return f.kind;
        if (what == 1) return f.parts.size();
        if (what == 2) return size(f);
        if (what == 3) return safe(formula) ? 1 : 0;
        return (what < 8 ? leans(formula, what - 4) : rises(formula, what - 8)) ? 1 : 0;
    }

    int partOf(int formula, int k) {
        if (none(formula) || out(k, made.get(formula).parts.size() - 1)) return BAD;
        return made.get(formula).parts.get(k);
    }

    int top(int formula, int k) {
        if (none(formula) || out(k, 39)) return BAD;
        List<Integer> order = new ArrayList<>();
        double[] values = new double[40];
        boolean[] fails = new boolean[40];
        for (int object = 0; object < 40; object++) {
            order.add(object);
            try {
                // + 0.0 makes one of the two zeros.
                values[object] = begin(formula, object) + 0.0;
            } catch (Failing failing) {
                fails[object] = true;
            }
        }
        order.sort(Comparator.comparing((Integer object) -> fails[object]).thenComparing(object -> -values[object] + 0.0));
        return order.get(k);
    }

    int clear() {
        counts = new int[40][4];
        lengths = new int[40][4];
        columns = new double[40][4];
        for (double[] of : columns) java.util.Arrays.fill(of, Double.NaN);
        java.util.Arrays.fill(givens, Double.NaN);
        return 0;
    }

    int forget() {
        int were = made.size();
        made.clear();
        return were;
    }
}
