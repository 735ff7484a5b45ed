import java.util.function.Consumer;
import java.util.function.IntConsumer;
import java.util.function.Supplier;

/** Counts what is not as it is due, and ends a test with exit code 1 if there was any such thing. */
final class Checks {
    static final int LOW = Integer.MIN_VALUE;
    static final int HIGH = Integer.MAX_VALUE;
    private static final int MOST_PRINTED = 20;

    private String sentence = "";
    private int sentences = 0;
    private int made = 0;
    private int wrong = 0;
    private int printed = 0;

    /** A test of one sentence of the document; each fault that it finds is told with the sentence. */
    void holds(String sentence, Runnable test) {
        this.sentence = sentence + ": ";
        sentences++;
        printed = 0;
        int before = made;
        try {
            test.run();
        } catch (RuntimeException e) {
            tell("threw " + e);
        }
        if (made == before) {
            tell("nothing has been tested");
        }
        this.sentence = "";
    }

    void same(String what, long got, long due) {
        made++;
        if (got != due) {
            tell(what + " answered " + got + ", due is " + due);
        }
    }

    void same(String what, boolean got, boolean due) {
        made++;
        if (got != due) {
            tell(what + " answered " + got + ", due is " + due);
        }
    }

    void same(String what, String got, String due) {
        made++;
        if (!got.equals(due)) {
            tell(what + " answered " + got + ", due is " + due);
        }
    }

    /** The call must throw that very exception, and by a throw statement: the machine's own text differs. */
    void noSuchLamp(String what, Runnable call) {
        made++;
        try {
            call.run();
            tell(what + " threw nothing, due is ArrayIndexOutOfBoundsException");
        } catch (RuntimeException e) {
            if (e.getClass() != ArrayIndexOutOfBoundsException.class) {
                tell(what + " threw " + e + ", due is ArrayIndexOutOfBoundsException");
            } else if (!"there is no such lamp".equals(e.getMessage())) {
                tell(what + " let the machine throw: " + e.getMessage());
            }
        }
    }

    /** One below the first lamp, one above the last, and what lies farther out. */
    void noSuchLamps(String what, int lamps, IntConsumer call) {
        for (int lamp : new int[] {-1, lamps, lamps + 1, 31, 32, 64, -32, LOW, HIGH}) {
            noSuchLamp(what + ", lamp " + lamp, () -> call.accept(lamp));
        }
    }

    /**
     * A row on which the call was made is like one on which it was not, whether or not anything has
     * been worked out ahead of the call.
     */
    void doesNothing(String what, Supplier<Row> made, Consumer<Row> call) {
        Row untouched = made.get();
        String all = untouched.everything();
        String pressed = untouched.pressed();
        Row fresh = made.get();
        call.accept(fresh);
        same(what + ", then all that can be asked", fresh.everything(), all);
        same(what + ", then presses", fresh.pressed(), pressed);
        Row asked = made.get();
        asked.everything();
        call.accept(asked);
        same(what + " after other calls, then all that can be asked", asked.everything(), all);
        same(what + " after other calls, then presses", asked.pressed(), pressed);
    }

    private void tell(String fault) {
        wrong++;
        printed++;
        if (printed <= MOST_PRINTED) {
            System.out.println(sentence + fault);
        }
    }

    void end() {
        String told = sentences == 0 ? "" : sentences + " tests of sentences, ";
        System.out.println(told + (wrong == 0 ? "all " + made + " answers are as due"
                : wrong + " of " + made + " answers are not as due"));
        if (wrong != 0) {
            System.exit(1);
        }
    }
}
