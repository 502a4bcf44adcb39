import java.util.ArrayList;
import java.util.List;

/** Calls that are due to be refused: what they answer, and that they change nothing that other calls show. */
final class Refusals {
    interface Call {
        long on(LuckyStolen x);
    }

    static final int BAD = -2, NOT = -3, FULL = -4;
    static final int NULL = -11, INDEX = -12, CAST = -13, STORE = -14, SIZE = -15;
    static final int LEAST_INT = -2147483648;
    static final long LONG_BAD = -9223372036854775806L, LONG_NOT = -9223372036854775805L;

    private final Due due;
    private final List<List<List<String>>> untouched = new ArrayList<>();

    Refusals(Due due) {
        this.due = due;
        for (State state : State.values()) {
            List<List<String>> parts = new ArrayList<>();
            for (int part = 0; part < Shown.PARTS; part++) {
                parts.add(Shown.part(part, state.anew()));
            }
            untouched.add(parts);
        }
    }

    /** The first numbers that are refused at both ends, and those farthest from them. */
    static int[] outside(int least, int most) {
        return new int[] {least - 1, most + 1, Integer.MIN_VALUE, Integer.MAX_VALUE};
    }

    void bad(String call, Call c) {
        refused(call, c, BAD, State.values());
    }

    void longBad(String call, Call c) {
        refused(call, c, LONG_BAD, State.values());
    }

    /** No finding: count(8) stays what it was. */
    void refused(String call, Call c, long want, State... states) {
        for (State state : states) {
            LuckyStolen x = state.anew();
            int before = x.count(8);
            due.is(state + ": " + call, c.on(x), want);
            due.is(state + ": count(8) behind " + call, x.count(8), before);
            changesNothing(call, c, state);
        }
    }

    /** A finding: count(8) becomes its number, whatever the answer is, and nothing else changes. */
    void found(String call, Call c, int finding, long want, State... states) {
        for (State state : states) {
            LuckyStolen x = state.anew();
            due.is(state + ": " + call, c.on(x), want);
            due.is(state + ": count(8) behind " + call, x.count(8), -10 - finding);
            changesNothing(call, c, state);
        }
    }

    void found(String call, Call c, int finding, State... states) {
        found(call, c, finding, finding, states);
    }

    private void changesNothing(String call, Call c, State state) {
        for (int part = 0; part < Shown.PARTS; part++) {
            LuckyStolen x = state.anew();
            c.on(x);
            List<String> want = untouched.get(state.ordinal()).get(part);
            List<String> got = Shown.part(part, x);
            due.is(state + ": answers of part " + part + " behind " + call, got.size(), want.size());
            for (int i = 0; i < Math.min(got.size(), want.size()); i++) {
                due.same(state + " behind " + call, got.get(i), want.get(i));
            }
        }
    }
}
