import java.util.function.IntUnaryOperator;

/**
 * A LightRows whose calls are counted. What an object answers after 512 calls is free, so a test that
 * went on would ask for more than the document promises: the 513th call ends it.
 */
final class Row {
    static final int MOST_CALLS = 512;

    final int lamps;
    private final LightRows row;
    private int calls = 0;

    Row(int lamps, int states) {
        this.lamps = lamps;
        row = new LightRows(lamps, states);
    }

    int callsLeft() {
        return MOST_CALLS - calls;
    }

    private LightRows called() {
        if (calls == MOST_CALLS) {
            throw new AssertionError("the test goes beyond the calls that the document promises");
        }
        calls++;
        return row;
    }

    boolean join(int a, int b) {
        return called().join(a, b);
    }

    boolean self(int lamp, boolean on) {
        return called().self(lamp, on);
    }

    boolean set(int lamp, int v) {
        return called().set(lamp, v);
    }

    boolean want(int lamp, int v) {
        return called().want(lamp, v);
    }

    boolean press(int lamp, int n) {
        return called().press(lamp, n);
    }

    int at(int lamp) {
        return called().at(lamp);
    }

    int apart() {
        return called().apart();
    }

    int rank() {
        return called().rank();
    }

    boolean solvable() {
        return called().solvable();
    }

    int answer(int lamp) {
        return called().answer(lamp);
    }

    int quiet(int k, int lamp) {
        return called().quiet(k, lamp);
    }

    int count(int i) {
        return called().count(i);
    }

    int fewest() {
        return called().fewest();
    }

    int best(int lamp) {
        return called().best(lamp);
    }

    boolean alone(int lamp) {
        return called().alone(lamp);
    }

    void clear() {
        called().clear();
    }

    void joinAll() {
        for (int a = 0; a < lamps; a++) {
            for (int b = a + 1; b < lamps; b++) {
                join(a, b);
            }
        }
    }

    /** Lamps from .. to - 1 are not SELF: where none of them is joined, their presses do nothing. */
    void selfOff(int from, int to) {
        for (int lamp = from; lamp < to; lamp++) {
            self(lamp, false);
        }
    }

    String states() {
        return listed(lamp -> at(lamp));
    }

    String answers() {
        return listed(lamp -> answer(lamp));
    }

    String quiets(int k) {
        return listed(lamp -> quiet(k, lamp));
    }

    String bests() {
        return listed(lamp -> best(lamp));
    }

    String alones() {
        return listed(lamp -> alone(lamp) ? 1 : 0);
    }

    private String listed(IntUnaryOperator call) {
        StringBuilder text = new StringBuilder();
        for (int lamp = 0; lamp < lamps; lamp++) {
            text.append(lamp == 0 ? "" : " ").append(call.applyAsInt(lamp));
        }
        return text.toString();
    }

    /** How many answers there are, from the highest digit on. */
    String digits() {
        StringBuilder text = new StringBuilder();
        int digit = count(0);
        while (digit >= 0 && text.length() < 40) {
            text.append(digit);
            digit = count(text.length());
        }
        return text.reverse().toString();
    }

    /** All that can be asked without a change. */
    String everything() {
        StringBuilder text = new StringBuilder("at ").append(states());
        text.append(", apart ").append(apart());
        text.append(", rank ").append(rank());
        text.append(", solvable ").append(solvable());
        text.append(", answer ").append(answers());
        for (int k = -1; k <= lamps && k < 4; k++) {
            text.append(", quiet ").append(k).append(": ").append(quiets(k));
        }
        text.append(", count ").append(digits());
        text.append(", fewest ").append(fewest());
        text.append(", best ").append(bests());
        return text.append(", alone ").append(alones()).toString();
    }

    /** What each lamp's press does tells what is joined and SELF; the states are then others. */
    String pressed() {
        StringBuilder text = new StringBuilder();
        for (int lamp = 0; lamp < lamps; lamp++) {
            press(lamp, 1);
            text.append(lamp == 0 ? "" : ", ").append(states());
        }
        return text.toString();
    }
}
