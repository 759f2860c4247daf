import java.util.ArrayList;
import java.util.List;
import java.util.function.Supplier;

/**
 * All that a caller can see of an object. Looking changes it, and it is used for 512 calls alone:
 * so each look is at an object made anew, by at most 200 calls.
 */
final class Sight {
    private final Supplier<ScoreFormulas> maker;
    private final List<String> seen = new ArrayList<>();
    private ScoreFormulas x;

    private Sight(Supplier<ScoreFormulas> maker) {
        this.maker = maker;
    }

    static List<String> of(Supplier<ScoreFormulas> maker) {
        Sight sight = new Sight(maker);
        int formulas = maker.get().forget();
        sight.latestAndAverages(formulas);
        for (int formula = 0; formula < formulas; formula++) sight.formula(formula);
        for (int place = 0; place < 4; place++) {
            sight.place(place);
            sight.lengths(place);
        }
        sight.whatMayBeTold(formulas);
        return sight.seen;
    }

    /** The first thing that two sights show differently; null, if there is none. */
    static String difference(List<String> before, List<String> after) {
        for (int i = 0; i < before.size() && i < after.size(); i++) {
            if (!before.get(i).equals(after.get(i))) return before.get(i) + " became " + after.get(i);
        }
        return before.size() == after.size() ? null : before.size() + " things became " + after.size();
    }

    private void see(String what, int a, int b, long answer) {
        seen.add(what + "(" + a + ", " + b + ") = " + answer);
    }

    private void latestAndAverages(int formulas) {
        x = maker.get();
        for (int what = 0; what < 5; what++) see("told", what, 0, x.told(what));
        for (int field = 0; field < 4; field++) see("average", field, 0, x.average(field));
        see("the kind of one that is not there", formulas, 0, x.about(formulas, 0));
        see("forget", 0, 0, x.forget());
    }

    private void formula(int formula) {
        x = maker.get();
        for (int what = 0; what < 12; what++) see("about", formula, what, x.about(formula, what));
        for (int k = 0; k < 9; k++) see("partOf", formula, k, x.partOf(formula, k));
        for (int object = 0; object < 40; object++) see("score", formula, object, x.score(formula, object));
        for (int what = 0; what < 5; what++) see("told of the last score", formula, what, x.told(what));
        see("top", formula, 0, x.top(formula, 0));
        see("top", formula, 39, x.top(formula, 39));
    }

    /** The COUNTS of a FIELD, what stands in a COLUMN, and NORMED, which shows LENGTHS too. */
    private void place(int place) {
        x = maker.get();
        x.forget();
        for (int kind : new int[] {1, 2, 4, 5}) Build.any(x, kind, place, 0);
        for (int object = 0; object < 40; object++) {
            for (int formula = 0; formula < 4; formula++) see("place " + place, formula, object, x.score(formula, object));
        }
    }

    /** Each LENGTH by what the AVERAGE loses without it. */
    private void lengths(int field) {
        x = maker.get();
        x.given(field, Check.bits(Double.NaN));
        for (int object = 0; object < 40; object++) {
            see("average from an object on", field, object, x.average(field));
            x.tell(object, field, 0, 0);
        }
    }

    /** Which FORMULAS are parts already, what SIZES leave room for, and the next number. */
    private void whatMayBeTold(int formulas) {
        x = maker.get();
        for (int formula = 0; formula < formulas; formula++) see("part", formula, 0, x.part(formula, 0));
        x = maker.get();
        for (int formula = 0; formula < formulas; formula++) see("FLOOR of", formula, 0, Build.floor(x, formula));
        x = maker.get();
        see("the next number", 0, 0, Build.constant(x, 1.0));
    }
}
