import java.util.List;
import java.util.function.Supplier;

/** An object after some calls, made anew each time, and the test that a call changes nothing of it. */
final class State {
    interface Call {
        /** formulas is how many there are: the first number that no FORMULA has. */
        long on(ScoreFormulas x, int formulas);
    }

    static final State NEW = new State("a new object", ScoreFormulas::new);
    static final State IN_USE = new State("an object in use", State::inUse);
    static final State MANY = new State("60 FORMULAS", State::sixty);
    static final State GREAT = new State("a FORMULA of SIZE 200", State::great);
    private static final State[] ALL = {NEW, IN_USE, MANY, GREAT};

    private final String name;
    private final Supplier<ScoreFormulas> maker;
    private final List<String> sight;
    private final int formulas;

    State(String name, Supplier<ScoreFormulas> maker) {
        this.name = name;
        this.maker = maker;
        sight = Sight.of(maker);
        formulas = maker.get().forget();
    }

    /** BAD is refused in every state. */
    static void dueBad(Check check, String what, Call call) {
        for (State state : ALL) state.dueUnchanged(check, what, call, ScoreFormulas.BAD);
    }

    /** The calls whose answer is 0 when they are BAD. */
    static void dueBadAsZero(Check check, String what, Call call) {
        for (State state : ALL) state.dueUnchanged(check, what, call, 0);
    }

    static void dueToChangeNothing(Check check, String what, Call call) {
        for (State state : ALL) state.dueUnchanged(check, what, call, call.on(state.maker.get(), state.formulas));
    }

    void dueUnchanged(Check check, String what, Call call, long want) {
        check.due(what + " on " + name, call.on(maker.get(), formulas), want);
        String difference = Sight.difference(sight, Sight.of(() -> after(call)));
        check.due(what + " on " + name + ": " + difference, difference == null ? 0 : 1, 0);
    }

    private ScoreFormulas after(Call call) {
        ScoreFormulas x = maker.get();
        call.on(x, formulas);
        return x;
    }

    /** FORMULAS of all kinds, told objects, and a score() that failed behind a caught failure. */
    private static ScoreFormulas inUse() {
        ScoreFormulas x = new ScoreFormulas();
        int[][] told = {{0, 0, 3, 10}, {39, 3, 1000, 100000}, {39, 0, 7, 67}, {5, 1, 0, 40}, {20, 2, 12, 0}, {20, 1, 1, 31}, {38, 3, 9, 2}, {39, 1, 2, 5}};
        for (int[] t : told) x.tell(t[0], t[1], t[2], t[3]);
        x.column(0, 0, Check.bits(1.5));
        x.column(39, 3, Check.bits(-2.0));
        x.column(5, 1, Check.bits(Double.POSITIVE_INFINITY));
        x.column(20, 2, Check.bits(-0.0));
        x.given(2, Check.bits(8.0));
        for (int kind = 0; kind <= 5; kind++) Build.of(x, kind, kind % 4, 0, kind == 0 ? -1.5 : 1.25, 0.75);
        Build.sum(x, 1, 3);
        Build.whole(x, Build.PRODUCT, 0.0, 2, 6);
        Build.whole(x, Build.BEST, 0.5, 1, 2, 3, 4, 1, 2, 3, 4);
        for (int kind = 9; kind <= 12; kind++) Build.any(x, kind, kind == 10 ? 5 : kind - 6, 0);
        Build.orElse(x, 5, 12);
        Build.whole(x, Build.PRODUCT, 0.0, 13, 0, 1);
        Build.sum(x);
        x.score(14, 39);
        return x;
    }

    private static ScoreFormulas sixty() {
        ScoreFormulas x = new ScoreFormulas();
        for (int formula = 0; formula < 60; formula++) Build.whole(x, 6 + formula % 3, 0.5);
        for (int k = 0; k < 8; k++) x.part(59, 50 + k);
        x.part(58, 0);
        x.tell(7, 3, 4, 20);
        x.score(59, 0);
        return x;
    }

    private static ScoreFormulas great() {
        ScoreFormulas x = new ScoreFormulas();
        int last = Build.upToGreatestSize(x);
        Build.sum(x, last - 1);
        Build.sum(x);
        x.column(0, 0, Check.bits(4.0));
        x.score(last, 39);
        return x;
    }
}
