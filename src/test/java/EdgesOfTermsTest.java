import java.util.function.Function;

/** The boundary cases that "What it is" and "Terms" name, a test for each sentence. */
public final class EdgesOfTermsTest {
    private static final Checks CHECKS = new Checks();
    private static final int[] STATES = {2, 3, 5, 7};

    public static void main(String[] args) {
        String calls = "What it is: \"at most 512 calls after it has been made; what later calls answer is free\"";
        CHECKS.holds(calls, EdgesOfTermsTest::lastCallsOfEachKind);
        CHECKS.holds(calls, EdgesOfTermsTest::lastCallsThatThrow);
        CHECKS.holds(calls, EdgesOfTermsTest::everyCallIsAChangeOrSeesOne);
        CHECKS.holds(calls, EdgesOfTermsTest::dearestCallsToTheLast);
        CHECKS.holds(calls, EdgesOfTermsTest::nextObjectStartsAnew);
        CHECKS.holds("Terms: \"LAMPS 0 .. lamps - 1\"", EdgesOfTermsTest::firstAndLastLamp);
        CHECKS.holds("Terms: \"each in one of P states 0 .. P - 1 (P is 2, 3, 5 or 7), at first all in 0\"",
                EdgesOfTermsTest::firstAndLastState);
        CHECKS.holds("Terms: \"WANTED is a state of each, at first 0\"", EdgesOfTermsTest::firstAndLastWanted);
        CHECKS.holds("Terms: \"its own state one more (if the lamp is SELF, as at first)\"",
                EdgesOfTermsTest::ownStateOneMore);
        CHECKS.holds("Terms: \"and that of each lamp that it is JOINED to\"", EdgesOfTermsTest::joinedStatesOneMore);
        CHECKS.holds("Terms: \"(modulo P)\"", EdgesOfTermsTest::roundOfOnePress);
        CHECKS.holds("Terms: \"(modulo P)\"", EdgesOfTermsTest::roundOfManyPresses);
        CHECKS.holds("Terms: \"how often each lamp is pressed (0 to P - 1)\"", EdgesOfTermsTest::answerOfOneLamp);
        CHECKS.holds("Terms: \"so that all are as WANTED then\"", EdgesOfTermsTest::answerOfAllLamps);
        String bound = "Terms: BOUND \"when what its press does .. is no sum of multiples\"";
        CHECKS.holds(bound, EdgesOfTermsTest::sumOfNone);
        CHECKS.holds(bound, EdgesOfTermsTest::likeOneAhead);
        CHECKS.holds(bound, EdgesOfTermsTest::sumOfTwo);
        CHECKS.holds(bound, EdgesOfTermsTest::sumOfMultiples);
        CHECKS.holds(bound, EdgesOfTermsTest::sumOfAsManyAsStates);
        CHECKS.holds("Terms: \"THE ANSWER, if there is one, is that by which all FREE lamps are pressed 0 times\"",
                EdgesOfTermsTest::freeLampsInTheAnswer);
        CHECKS.holds("Terms: \"A QUIET pattern changes nothing\"", EdgesOfTermsTest::quietChangesNothing);
        CHECKS.holds("Terms: \"one for each FREE lamp, by which it is pressed once and all other FREE ones 0 times\"",
                EdgesOfTermsTest::freeLampsInQuietPatterns);
        CHECKS.end();
    }

    /** Lamps 0 and 1 move together and are to move on by one, lamp 2 by one; ten calls are made. */
    private static LightRows inUse() {
        LightRows x = new LightRows(3, 3);
        x.join(0, 1);
        x.want(0, 1);
        x.want(1, 1);
        x.set(2, 2);
        x.rank();
        x.fewest();
        x.want(0, 2);
        x.want(0, 1);
        x.press(2, 3);
        x.press(2, 0);
        return x;
    }

    /**
     * The 511th and the 512th call answer what is due. The 513th may answer what it likes, but it
     * ends, and throws nothing: rules 6 and 7 of LANGUAGE.md hold for every call.
     */
    private static void lastCalls(String what, Function<LightRows, Object> call511, Object due511,
            Function<LightRows, Object> call512, Object due512) {
        LightRows x = inUse();
        for (int call = 11; call <= 510; call++) {
            x.at(call % 3);
        }
        CHECKS.same("511th call, " + what, call511.apply(x).toString(), due511.toString());
        CHECKS.same("512th call, " + what, call512.apply(x).toString(), due512.toString());
        CHECKS.same("513th call, " + what + ", ends", call512.apply(x) != null, true);
    }

    private static void lastCallsOfEachKind() {
        lastCalls("join", x -> x.join(1, 2), true, x -> x.join(2, 1), false);
        lastCalls("self", x -> x.self(0, false), true, x -> x.self(0, false), false);
        lastCalls("set", x -> x.set(2, 1), true, x -> x.set(2, 3), false);
        lastCalls("set and at", x -> x.set(2, 1), true, x -> x.at(2), 1);
        lastCalls("want", x -> x.want(2, 2), true, x -> x.want(2, 3), false);
        lastCalls("want and apart", x -> x.want(2, 2), true, x -> x.apart(), 2);
        lastCalls("press", x -> x.press(2, 1000), true, x -> x.press(2, 1001), false);
        lastCalls("press and at", x -> x.press(2, 1000), true, x -> x.at(2), 0);
        lastCalls("at", x -> x.at(2), 2, x -> x.at(0), 0);
        lastCalls("apart", x -> x.apart(), 3, x -> x.apart(), 3);
        lastCalls("rank", x -> x.rank(), 2, x -> x.rank(), 2);
        lastCalls("solvable", x -> x.solvable(), true, x -> x.solvable(), true);
        lastCalls("self and solvable", x -> x.self(2, false), true, x -> x.solvable(), false);
        lastCalls("answer", x -> x.answer(0), 1, x -> x.answer(1), 0);
        lastCalls("quiet", x -> x.quiet(0, 0), 2, x -> x.quiet(1, 0), -1);
        lastCalls("count", x -> x.count(0), 3, x -> x.count(1), -1);
        lastCalls("fewest", x -> x.fewest(), 2, x -> x.fewest(), 2);
        lastCalls("best", x -> x.best(0), 0, x -> x.best(1), 1);
        lastCalls("alone", x -> x.alone(0), false, x -> x.alone(2), true);
        lastCalls("clear", x -> cleared(x), "cleared", x -> x.apart(), 0);
        lastCalls("clear twice", x -> cleared(x), "cleared", x -> cleared(x), "cleared");
    }

    private static String cleared(LightRows x) {
        x.clear();
        return "cleared";
    }

    private static void lastCallsThatThrow() {
        LightRows x = inUse();
        for (int call = 11; call <= 510; call++) {
            CHECKS.noSuchLamp("call " + call, () -> x.at(3));
        }
        CHECKS.noSuchLamp("511th call", () -> x.at(-1));
        CHECKS.same("512th call", x.at(2), 2);
    }

    private static void everyCallIsAChangeOrSeesOne() {
        LightRows x = new LightRows(30, 7);
        int[] due = new int[30];
        for (int call = 1; call <= 512; call += 2) {
            int lamp = call % 30;
            CHECKS.same("call " + call, x.press(lamp, call), true);
            due[lamp] = (due[lamp] + call) % 7;
            CHECKS.same("call " + (call + 1), x.at(lamp), due[lamp]);
        }
    }

    /** 19,683 answers are the most that are gone through. */
    private static void dearestCallsToTheLast() {
        Row x = new Row(30, 3);
        x.selfOff(0, 9);
        int call = 9;
        for (int due = 0; call < 512; call += 2) {
            due = (due + 1) % 3;
            x.want(29, due);
            if (x.callsLeft() > 0) {
                CHECKS.same("fewest after call " + call, x.fewest(), due);
            }
        }
        CHECKS.same("calls left", x.callsLeft(), 0);
    }

    private static void nextObjectStartsAnew() {
        Row used = new Row(3, 3);
        while (used.callsLeft() > 0) {
            used.press(used.callsLeft() % 3, 1);
        }
        Row next = new Row(3, 3);
        CHECKS.same("a new object's states", next.states(), "0 0 0");
        while (next.callsLeft() > 2) {
            next.press(1, 1);
        }
        CHECKS.same("511th call", next.press(1, 3), true);
        CHECKS.same("512th call", next.at(1), (512 - 3 - 2) % 3);
    }

    private static void firstAndLastLamp() {
        for (int lamps : new int[] {1, 2, 29, 30}) {
            Row x = new Row(lamps, 2);
            CHECKS.noSuchLamp(lamps + " lamps: -1", () -> x.press(-1, 1));
            CHECKS.same(lamps + " lamps: 0", x.press(0, 1), true);
            CHECKS.same(lamps + " lamps: after 0", x.apart(), 1);
            CHECKS.same(lamps + " lamps: last", x.press(lamps - 1, 1), true);
            CHECKS.same(lamps + " lamps: after the last", x.apart(), lamps == 1 ? 0 : 2);
            CHECKS.noSuchLamp(lamps + " lamps: behind the last", () -> x.press(lamps, 1));
        }
    }

    private static void firstAndLastState() {
        for (int states : STATES) {
            Row x = new Row(2, states);
            CHECKS.same(states + " states: at first", x.states(), "0 0");
            for (int presses = 1; presses <= states + 1; presses++) {
                x.press(1, 1);
                int due = presses < states ? presses : presses - states;
                CHECKS.same(states + " states: after " + presses, x.at(1), due);
            }
            CHECKS.same(states + " states: one below the first", x.set(0, -1), false);
            CHECKS.same(states + " states: the last", x.set(0, states - 1), true);
            CHECKS.same(states + " states: it is in the last", x.at(0), states - 1);
            CHECKS.same(states + " states: one above the last", x.set(0, states), false);
            CHECKS.same(states + " states: the first", x.set(0, 0), true);
            CHECKS.same(states + " states: it is in the first", x.at(0), 0);
        }
    }

    private static void firstAndLastWanted() {
        for (int states : STATES) {
            Row x = new Row(30, states);
            CHECKS.same(states + " states: at first", x.apart(), 0);
            for (int lamp = 0; lamp < 30; lamp++) {
                x.press(lamp, states - 1);
                CHECKS.same(states + " states: lamp " + lamp + " leaves 0", x.apart(), lamp + 1);
            }
            CHECKS.same(states + " states: one below the first", x.want(3, -1), false);
            CHECKS.same(states + " states: one above the last", x.want(3, states), false);
            CHECKS.same(states + " states: apart still", x.apart(), 30);
            CHECKS.same(states + " states: the last", x.want(3, states - 1), true);
            CHECKS.same(states + " states: as WANTED", x.apart(), 29);
            CHECKS.same(states + " states: the first", x.want(3, 0), true);
            CHECKS.same(states + " states: not as WANTED", x.apart(), 30);
        }
    }

    private static void ownStateOneMore() {
        for (int states : STATES) {
            Row x = new Row(2, states);
            x.join(0, 1);
            x.press(0, 1);
            CHECKS.same(states + " states: SELF as at first", x.states(), "1 1");
            x.self(0, false);
            x.press(0, 1);
            CHECKS.same(states + " states: not SELF", x.states(), "1 " + 2 % states);
            x.press(1, 1);
            CHECKS.same(states + " states: the other is SELF", x.states(), 2 % states + " " + 3 % states);
            x.self(0, true);
            x.press(0, 1);
            CHECKS.same(states + " states: SELF again", x.states(), 3 % states + " " + 4 % states);
        }
    }

    private static void joinedStatesOneMore() {
        Row x = new Row(4, 5);
        x.press(1, 1);
        CHECKS.same("joined to none", x.states(), "0 1 0 0");
        x.join(1, 2);
        x.press(1, 1);
        CHECKS.same("joined to one", x.states(), "0 2 1 0");
        x.join(2, 3);
        x.press(1, 1);
        CHECKS.same("not what is joined to that one", x.states(), "0 3 2 0");
        x.press(3, 1);
        CHECKS.same("from the other end", x.states(), "0 3 3 1");
        x.press(2, 1);
        CHECKS.same("joined to two", x.states(), "0 4 4 2");
        Row full = new Row(30, 7);
        full.joinAll();
        full.press(29, 1);
        CHECKS.same("joined to all, the first", full.at(0), 1);
        CHECKS.same("joined to all, the last", full.at(29), 1);
        CHECKS.same("joined to all", full.apart(), 30);
    }

    /** From the last state but one, from the last and from the first. */
    private static void roundOfOnePress() {
        for (int states : STATES) {
            Row x = new Row(3, states);
            x.join(0, 1);
            x.set(0, states - 2);
            x.set(1, states - 1);
            x.set(2, states - 1);
            x.press(0, 1);
            CHECKS.same(states + " states: to the last and round", x.states(), states - 1 + " 0 " + (states - 1));
            x.press(0, 1);
            CHECKS.same(states + " states: round and to 1", x.states(), "0 1 " + (states - 1));
            x.press(2, 1);
            CHECKS.same(states + " states: joined to none", x.states(), "0 1 0");
        }
    }

    private static void roundOfManyPresses() {
        for (int states : STATES) {
            for (int n : new int[] {states - 1, states, states + 1, 2 * states - 1, 2 * states, 999, 1000}) {
                for (int from : new int[] {0, 1, states - 1}) {
                    Row x = new Row(2, states);
                    x.join(0, 1);
                    x.set(0, from);
                    x.press(1, n);
                    CHECKS.same(states + " states: " + n + " presses from " + from, x.states(),
                            (from + n) % states + " " + n % states);
                }
            }
        }
    }

    private static void answerOfOneLamp() {
        for (int states : STATES) {
            checkLacking(states, 0, 0, 0);
            checkLacking(states, 0, 1, 1);
            checkLacking(states, 0, states - 1, states - 1);
            checkLacking(states, 1, 0, states - 1);
            checkLacking(states, 1, 1, 0);
            checkLacking(states, states - 1, 0, 1);
            checkLacking(states, states - 1, states - 1, 0);
            checkLacking(states, states - 1, states - 2, states - 1);
        }
    }

    private static void checkLacking(int states, int now, int wanted, int due) {
        Row x = new Row(1, states);
        x.set(0, now);
        x.want(0, wanted);
        String name = states + " states, " + now + " to " + wanted + ": ";
        CHECKS.same(name + "answer", x.answer(0), due);
        CHECKS.same(name + "best", x.best(0), due);
        CHECKS.same(name + "fewest", x.fewest(), due);
        CHECKS.same(name + "press", x.press(0, due), true);
        CHECKS.same(name + "as WANTED then", x.apart(), 0);
    }

    private static void answerOfAllLamps() {
        for (int states : STATES) {
            Row x = new Row(30, states);
            for (int lamp = 0; lamp < 30; lamp++) {
                x.want(lamp, states - 1);
            }
            CHECKS.same(states + " states: all but the last", pressAnswer(x, 29), 1);
            Row all = new Row(30, states);
            for (int lamp = 0; lamp < 30; lamp++) {
                all.want(lamp, states - 1);
            }
            CHECKS.same(states + " states: all", pressAnswer(all, 30), 0);
        }
    }

    private static int pressAnswer(Row x, int lamps) {
        int[] presses = new int[lamps];
        for (int lamp = 0; lamp < lamps; lamp++) {
            presses[lamp] = x.answer(lamp);
        }
        for (int lamp = 0; lamp < lamps; lamp++) {
            x.press(lamp, presses[lamp]);
        }
        return x.apart();
    }

    /** What does nothing is the sum of none: FREE even where no lamp is ahead. */
    private static void sumOfNone() {
        for (int states : STATES) {
            Row x = new Row(2, states);
            CHECKS.same(states + " states: both do something", x.rank(), 2);
            x.self(0, false);
            CHECKS.same(states + " states: the first does nothing", x.rank(), 1);
            CHECKS.same(states + " states: the first is FREE", x.quiets(0), "1 0");
            x.self(0, true);
            x.self(1, false);
            CHECKS.same(states + " states: the last is FREE", x.quiets(0), "0 1");
            x.self(0, false);
            CHECKS.same(states + " states: both are FREE", x.rank(), 0);
            x.join(0, 1);
            CHECKS.same(states + " states: each moves the other one", x.rank(), 2);
        }
    }

    private static void likeOneAhead() {
        for (int states : STATES) {
            Row x = new Row(3, states);
            x.join(0, 2);
            CHECKS.same(states + " states: two alike", x.rank(), 2);
            CHECKS.same(states + " states: the later one is FREE", x.quiets(0), states - 1 + " 0 1");
            x.self(0, false);
            CHECKS.same(states + " states: not alike when the first is not SELF", x.rank(), 3);
            x.self(0, true);
            x.self(2, false);
            CHECKS.same(states + " states: not alike when the last is not SELF", x.rank(), 3);
        }
    }

    /** Lamp 2 moves what 0 and 1 move; itself it would move twice, which is nothing modulo 2 alone. */
    private static void sumOfTwo() {
        for (int states : STATES) {
            Row x = new Row(3, states);
            x.join(0, 2);
            x.join(1, 2);
            x.self(2, false);
            CHECKS.same(states + " states: rank", x.rank(), states == 2 ? 2 : 3);
            CHECKS.same(states + " states: quiet", x.quiets(0), states == 2 ? "1 1 1" : "-1 -1 -1");
        }
    }

    private static void sumOfMultiples() {
        for (int states : STATES) {
            Row x = new Row(5, states);
            x.self(0, false);
            x.self(1, false);
            for (int lamp = 1; lamp < 5; lamp++) {
                x.join(0, lamp);
            }
            x.join(1, 2);
            x.join(1, 3);
            CHECKS.same(states + " states: rank", x.rank(), states == 5 ? 4 : 5);
            CHECKS.same(states + " states: quiet", x.quiets(0), states == 5 ? "4 3 3 3 1" : "-1 -1 -1 -1 -1");
        }
    }

    /** All leaves together move the middle as often as there are leaves, and each leaf once. */
    private static void sumOfAsManyAsStates() {
        for (int states : STATES) {
            for (int leaves = states - 1; leaves <= states + 1; leaves++) {
                Row x = new Row(leaves + 1, states);
                x.self(0, false);
                for (int leaf = 1; leaf <= leaves; leaf++) {
                    x.join(0, leaf);
                }
                boolean due = leaves == states;
                String name = states + " states, " + leaves + " leaves: ";
                CHECKS.same(name + "rank", x.rank(), due ? leaves : leaves + 1);
                CHECKS.same(name + "quiet of the middle", x.quiet(0, 0), due ? states - 1 : -1);
                CHECKS.same(name + "quiet of the first leaf", x.quiet(0, 1), due ? 1 : -1);
                CHECKS.same(name + "quiet of the last leaf", x.quiet(0, leaves), due ? 1 : -1);
            }
        }
    }

    private static void freeLampsInTheAnswer() {
        for (int states : STATES) {
            Row none = new Row(3, states);
            wantOfAll(none, states - 1);
            CHECKS.same(states + " states: no FREE lamp", none.answers(), (states - 1 + " ").repeat(3).trim());
            Row two = new Row(3, states);
            two.joinAll();
            wantOfAll(two, states - 1);
            CHECKS.same(states + " states: all but the first are FREE", two.answers(), states - 1 + " 0 0");
            Row all = new Row(3, states);
            all.selfOff(0, 3);
            CHECKS.same(states + " states: all are FREE", all.answers(), "0 0 0");
            all.want(0, 1);
            CHECKS.same(states + " states: there is none", all.answers(), "-1 -1 -1");
        }
    }

    private static void wantOfAll(Row x, int state) {
        for (int lamp = 0; lamp < x.lamps; lamp++) {
            x.want(lamp, state);
        }
    }

    private static void quietChangesNothing() {
        for (int states : STATES) {
            Row x = new Row(6, states);
            x.joinAll();
            x.self(5, false);
            x.set(0, states - 1);
            String before = x.states();
            int free = 6 - x.rank();
            for (int k = 0; k < free; k++) {
                String pattern = x.quiets(k);
                for (int lamp = 0; lamp < 6; lamp++) {
                    x.press(lamp, x.quiet(k, lamp));
                }
                CHECKS.same(states + " states: after " + pattern, x.states(), before);
            }
        }
    }

    private static void freeLampsInQuietPatterns() {
        for (int states : STATES) {
            String back = states - 1 + "";
            Row none = new Row(3, states);
            CHECKS.same(states + " states: none for no FREE lamp", none.quiets(0), "-1 -1 -1");
            Row two = new Row(3, states);
            two.joinAll();
            CHECKS.same(states + " states: first of two", two.quiets(0), back + " 1 0");
            CHECKS.same(states + " states: second of two", two.quiets(1), back + " 0 1");
            CHECKS.same(states + " states: no third of two", two.quiets(2), "-1 -1 -1");
            Row all = new Row(3, states);
            all.selfOff(0, 3);
            CHECKS.same(states + " states: first of all", all.quiets(0), "1 0 0");
            CHECKS.same(states + " states: last of all", all.quiets(2), "0 0 1");
            CHECKS.same(states + " states: none behind all", all.quiets(3), "-1 -1 -1");
        }
    }
}
