import java.util.function.Supplier;

/** The boundary cases that promises 1 to 7 and 17 name, a test for each sentence. */
public final class EdgesOfChangesTest {
    private static final Checks CHECKS = new Checks();
    private static final int LOW = Checks.LOW;
    private static final int HIGH = Checks.HIGH;
    private static final int[] STATES = {2, 3, 5, 7};
    private static final int[] SIZES = {1, 2, 29, 30};
    private static final String NO_LAMP = "\"ArrayIndexOutOfBoundsException: there is no such lamp\"";

    public static void main(String[] args) {
        promise1();
        promises2And3();
        promises4And5();
        promises6And7();
        promise17();
        CHECKS.end();
    }

    private static void promise1() {
        CHECKS.holds("Promise 1: \"All lamps in state 0\"", EdgesOfChangesTest::newStates);
        CHECKS.holds("Promise 1: \"none joined\"", EdgesOfChangesTest::newNoneJoined);
        CHECKS.holds("Promise 1: \"all SELF\"", EdgesOfChangesTest::newAllSelf);
        CHECKS.holds("Promise 1: \"lamps is held to 1 to 30 (what is below counts as 1\"",
                EdgesOfChangesTest::fewestLamps);
        CHECKS.holds("Promise 1: \"what is above as 30)\"", EdgesOfChangesTest::mostLamps);
        CHECKS.holds("Promise 1: \"states becomes 2 when it is below 3\"", EdgesOfChangesTest::statesBelow3);
        CHECKS.holds("Promise 1: \"3 when it is 3 or 4\"", EdgesOfChangesTest::states3Or4);
        CHECKS.holds("Promise 1: \"5 when it is 5 or 6\"", EdgesOfChangesTest::states5Or6);
        CHECKS.holds("Promise 1: \"else 7\"", EdgesOfChangesTest::statesAbove6);
    }

    private static void promises2And3() {
        CHECKS.holds("Promise 2: \"Two lamps are JOINED, each to the other one: true\"",
                EdgesOfChangesTest::joinEachToTheOther);
        CHECKS.holds("Promise 2: \"Two lamps are JOINED, each to the other one: true\"",
                EdgesOfChangesTest::joinEveryPair);
        CHECKS.holds("Promise 2: \"false, doing nothing, when they are so already\"",
                EdgesOfChangesTest::joinedAlready);
        CHECKS.holds("Promise 2: \"false, doing nothing, when they .. are one\"", EdgesOfChangesTest::joinOne);
        CHECKS.holds("Promise 2: " + NO_LAMP, EdgesOfChangesTest::joinNoSuchLamp);
        CHECKS.holds("Promise 3: \"A lamp is SELF, or not: true\"", EdgesOfChangesTest::selfOffAndOn);
        CHECKS.holds("Promise 3: \"false when it is so already\"", EdgesOfChangesTest::selfAlready);
        CHECKS.holds("Promise 3: " + NO_LAMP, EdgesOfChangesTest::selfNoSuchLamp);
    }

    private static void promises4And5() {
        CHECKS.holds("Promise 4: \"A lamp is in a state: true\"", EdgesOfChangesTest::setEveryState);
        CHECKS.holds("Promise 4: \"false, doing nothing, when there is no such state\"",
                EdgesOfChangesTest::setNoSuchState);
        CHECKS.holds("Promise 4: " + NO_LAMP, EdgesOfChangesTest::setNoSuchLamp);
        CHECKS.holds("Promise 5: \"A state of a lamp is WANTED: true\"", EdgesOfChangesTest::wantEveryState);
        CHECKS.holds("Promise 5: \"false, doing nothing, when there is no such state\"",
                EdgesOfChangesTest::wantNoSuchState);
        CHECKS.holds("Promise 5: " + NO_LAMP, EdgesOfChangesTest::wantNoSuchLamp);
    }

    private static void promises6And7() {
        CHECKS.holds("Promise 6: \"n times (0 to 1,000): true\"", EdgesOfChangesTest::pressFewestAndMost);
        CHECKS.holds("Promise 6: \"false, doing nothing, when n is not so\"", EdgesOfChangesTest::pressTooFewOrMany);
        CHECKS.holds("Promise 6: " + NO_LAMP, EdgesOfChangesTest::pressNoSuchLamp);
        CHECKS.holds("Promise 7: \"The state of a lamp\"", EdgesOfChangesTest::atFirstAndLast);
        CHECKS.holds("Promise 7: " + NO_LAMP, EdgesOfChangesTest::atNoSuchLamp);
    }

    private static void promise17() {
        CHECKS.holds("Promise 17: \"All lamps are in state 0\"", EdgesOfChangesTest::clearStates);
        CHECKS.holds("Promise 17: \"0 is WANTED of all\"", EdgesOfChangesTest::clearWanted);
        CHECKS.holds("Promise 17: \"All lamps are in state 0, and 0 is WANTED of all\"",
                EdgesOfChangesTest::clearNothing);
        CHECKS.holds("Promise 17: \"what is joined .. stays\"", EdgesOfChangesTest::clearKeepsJoined);
        CHECKS.holds("Promise 17: \"SELF stays\"", EdgesOfChangesTest::clearKeepsSelf);
    }

    private static void newStates() {
        for (int lamps : SIZES) {
            Row x = new Row(lamps, 7);
            for (int lamp = 0; lamp < lamps; lamp++) {
                CHECKS.same(lamps + " lamps: at " + lamp, x.at(lamp), 0);
            }
            CHECKS.same(lamps + " lamps: 0 is WANTED, too", x.apart(), 0);
        }
    }

    private static void newNoneJoined() {
        for (int lamps : SIZES) {
            Row x = new Row(lamps, 7);
            for (int lamp = 0; lamp < lamps; lamp++) {
                x.press(lamp, lamp % 6 + 1);
                CHECKS.same(lamps + " lamps: only " + lamp + " moves", x.at(lamp), lamp % 6 + 1);
                CHECKS.same(lamps + " lamps: apart after " + lamp, x.apart(), lamp + 1);
            }
        }
    }

    private static void newAllSelf() {
        for (int lamps : SIZES) {
            Row x = new Row(lamps, 7);
            for (int lamp = 0; lamp < lamps; lamp++) {
                CHECKS.same(lamps + " lamps: already " + lamp, x.self(lamp, true), false);
            }
            CHECKS.same(lamps + " lamps: rank", x.rank(), lamps);
        }
    }

    private static void fewestLamps() {
        checkLamps(LOW, 1);
        checkLamps(-2, 1);
        checkLamps(-1, 1);
        checkLamps(0, 1);
        checkLamps(1, 1);
        checkLamps(2, 2);
        checkLamps(3, 3);
    }

    private static void mostLamps() {
        checkLamps(28, 28);
        checkLamps(29, 29);
        checkLamps(30, 30);
        checkLamps(31, 30);
        checkLamps(32, 30);
        checkLamps(33, 30);
        checkLamps(HIGH - 1, 30);
        checkLamps(HIGH, 30);
    }

    private static void checkLamps(int asked, int held) {
        for (int states : STATES) {
            Row x = new Row(asked, states);
            String name = asked + " lamps, " + states + " states: ";
            CHECKS.same(name + "rank", x.rank(), held);
            CHECKS.same(name + "the last is there", x.set(held - 1, 1), true);
            CHECKS.same(name + "the last", x.at(held - 1), 1);
            CHECKS.same(name + "the last's answer", x.answer(held - 1), states - 1);
            CHECKS.noSuchLamp(name + "behind the last", () -> x.at(held));
            CHECKS.noSuchLamp(name + "ahead of the first", () -> x.at(-1));
        }
    }

    private static void statesBelow3() {
        checkStates(LOW, 2);
        checkStates(-7, 2);
        checkStates(-1, 2);
        checkStates(0, 2);
        checkStates(1, 2);
        checkStates(2, 2);
        checkStates(3, 3);
    }

    private static void states3Or4() {
        checkStates(2, 2);
        checkStates(3, 3);
        checkStates(4, 3);
        checkStates(5, 5);
    }

    private static void states5Or6() {
        checkStates(4, 3);
        checkStates(5, 5);
        checkStates(6, 5);
        checkStates(7, 7);
    }

    private static void statesAbove6() {
        checkStates(6, 5);
        checkStates(7, 7);
        checkStates(8, 7);
        checkStates(9, 7);
        checkStates(11, 7);
        checkStates(HIGH - 1, 7);
        checkStates(HIGH, 7);
    }

    private static void checkStates(int asked, int held) {
        Row x = new Row(2, asked);
        String name = asked + " states: ";
        CHECKS.same(name + "the last", x.set(0, held - 1), true);
        CHECKS.same(name + "one above the last", x.set(0, held), false);
        CHECKS.same(name + "the last is WANTED", x.want(1, held - 1), true);
        CHECKS.same(name + "one above the last is WANTED", x.want(1, held), false);
        CHECKS.same(name + "answer", x.answers(), "1 " + (held - 1));
        x.press(0, 1);
        CHECKS.same(name + "round", x.at(0), 0);
        x.self(1, false);
        x.want(1, 0);
        CHECKS.same(name + "one FREE lamp's answers", x.count(0), held);
    }

    private static void joinEachToTheOther() {
        for (int lamps : new int[] {2, 3, 29, 30}) {
            int last = lamps - 1;
            Row x = new Row(lamps, 3);
            CHECKS.same(lamps + " lamps: first and last", x.join(0, last), true);
            x.press(0, 1);
            CHECKS.same(lamps + " lamps: the first's press moves the last", x.at(last), 1);
            CHECKS.same(lamps + " lamps: and no other", x.apart(), 2);
            x.press(last, 1);
            CHECKS.same(lamps + " lamps: the last's press moves the first", x.at(0), 2);
            CHECKS.same(lamps + " lamps: and no other again", x.apart(), 2);
            Row back = new Row(lamps, 3);
            CHECKS.same(lamps + " lamps: last and first", back.join(last, 0), true);
            back.press(0, 1);
            CHECKS.same(lamps + " lamps: the first's press moves the last, too", back.at(last), 1);
        }
    }

    private static void joinEveryPair() {
        Row x = new Row(30, 7);
        for (int a = 0; a < 30; a++) {
            for (int b = 0; b < a; b++) {
                CHECKS.same("join " + a + " " + b, x.join(a, b), true);
            }
        }
        CHECKS.same("no more to join", x.join(0, 29), false);
        x.press(15, 1);
        CHECKS.same("all move together", x.apart(), 30);
        CHECKS.same("rank", x.rank(), 1);
    }

    /** Three states, lamps 0 and 2 joined, not all as WANTED, lamp 3 not SELF. */
    private static Row someRow() {
        Row x = new Row(4, 3);
        x.join(0, 2);
        x.self(3, false);
        x.set(1, 2);
        x.want(0, 1);
        x.want(2, 1);
        return x;
    }

    private static Row someRowOfTwo() {
        Row x = new Row(2, 7);
        x.join(0, 1);
        x.set(0, 6);
        return x;
    }

    /** A refused call must leave all as it is, wherever it is made. */
    private static void checkRefused(String what, RefusedCall call) {
        checkRefusedOn(what + " (some row)", EdgesOfChangesTest::someRow, call);
        checkRefusedOn(what + " (two lamps)", EdgesOfChangesTest::someRowOfTwo, call);
        checkRefusedOn(what + " (a new row of one lamp)", () -> new Row(1, 2), call);
        checkRefusedOn(what + " (a new row of five lamps)", () -> new Row(5, 5), call);
    }

    private static void checkRefusedOn(String what, Supplier<Row> made, RefusedCall call) {
        CHECKS.same(what, call.on(made.get()), false);
        CHECKS.doesNothing(what, made, x -> call.on(x));
    }

    private interface RefusedCall {
        boolean on(Row x);
    }

    private static void checkNoSuchLamp(String what, LampCall call) {
        checkNoSuchLampOn(what + " (some row)", EdgesOfChangesTest::someRow, call);
        checkNoSuchLampOn(what + " (two lamps)", EdgesOfChangesTest::someRowOfTwo, call);
        checkNoSuchLampOn(what + " (one lamp)", () -> new Row(1, 2), call);
        for (int lamps : new int[] {29, 30}) {
            Row x = new Row(lamps, 2);
            CHECKS.noSuchLamps(what + " (" + lamps + " lamps)", lamps, lamp -> call.on(x, lamp));
        }
    }

    private static void checkNoSuchLampOn(String what, Supplier<Row> made, LampCall call) {
        Row x = made.get();
        CHECKS.noSuchLamps(what, x.lamps, lamp -> call.on(x, lamp));
        CHECKS.doesNothing(what, made, y -> CHECKS.noSuchLamps(what, y.lamps, lamp -> call.on(y, lamp)));
    }

    private interface LampCall {
        void on(Row x, int lamp);
    }

    private static void joinedAlready() {
        checkRefusedOn("joined so", EdgesOfChangesTest::someRow, x -> x.join(0, 2));
        checkRefusedOn("joined the other way", EdgesOfChangesTest::someRow, x -> x.join(2, 0));
        checkRefusedOn("both of two", EdgesOfChangesTest::someRowOfTwo, x -> x.join(0, 1));
        checkRefusedOn("both of two, the other way", EdgesOfChangesTest::someRowOfTwo, x -> x.join(1, 0));
        Row x = someRow();
        CHECKS.same("not joined yet", x.join(0, 1), true);
        CHECKS.same("joined now", x.join(1, 0), false);
        CHECKS.same("joined to one that is joined", x.join(1, 2), true);
        CHECKS.same("joined now, too", x.join(1, 2), false);
        CHECKS.same("to one that is not SELF", x.join(3, 2), true);
        CHECKS.same("still joined", x.join(0, 2), false);
    }

    private static void joinOne() {
        checkRefused("the first", x -> x.join(0, 0));
        checkRefused("the last", x -> x.join(x.lamps - 1, x.lamps - 1));
        checkRefusedOn("a lamp that is not SELF", EdgesOfChangesTest::someRow, x -> x.join(3, 3));
        checkRefusedOn("a lamp that is joined", EdgesOfChangesTest::someRow, x -> x.join(2, 2));
        Row x = new Row(30, 2);
        for (int lamp = 0; lamp < 30; lamp++) {
            CHECKS.same("one below " + lamp, lamp > 0 && x.join(lamp, lamp - 1), lamp > 0);
            CHECKS.same("itself, " + lamp, x.join(lamp, lamp), false);
        }
    }

    private static void joinNoSuchLamp() {
        checkNoSuchLamp("the first one given", (x, lamp) -> x.join(lamp, 0));
        checkNoSuchLamp("the second one given", (x, lamp) -> x.join(0, lamp));
        checkNoSuchLamp("with the last lamp", (x, lamp) -> x.join(x.lamps - 1, lamp));
        checkNoSuchLamp("one that is not there", (x, lamp) -> x.join(lamp, lamp));
        checkNoSuchLamp("two that are not there", (x, lamp) -> x.join(lamp, -1));
    }

    private static void selfOffAndOn() {
        for (int lamps : SIZES) {
            for (int lamp : new int[] {0, lamps - 1}) {
                Row x = new Row(lamps, 3);
                String name = lamps + " lamps, lamp " + lamp + ": ";
                CHECKS.same(name + "off", x.self(lamp, false), true);
                x.press(lamp, 1);
                CHECKS.same(name + "a press does nothing", x.apart(), 0);
                CHECKS.same(name + "all others are BOUND", x.rank(), lamps - 1);
                CHECKS.same(name + "on", x.self(lamp, true), true);
                x.press(lamp, 1);
                CHECKS.same(name + "a press moves it", x.at(lamp), 1);
                CHECKS.same(name + "and no other", x.apart(), 1);
                CHECKS.same(name + "all are BOUND", x.rank(), lamps);
            }
        }
    }

    private static void selfAlready() {
        checkRefused("the first, on", x -> x.self(0, true));
        checkRefusedOn("the last, off", EdgesOfChangesTest::someRow, x -> x.self(3, false));
        Row x = new Row(30, 2);
        for (int lamp = 0; lamp < 30; lamp++) {
            CHECKS.same("on at first, " + lamp, x.self(lamp, true), false);
            CHECKS.same("off, " + lamp, x.self(lamp, false), true);
            CHECKS.same("off already, " + lamp, x.self(lamp, false), false);
        }
        CHECKS.same("no lamp is SELF", x.rank(), 0);
        for (int lamp = 0; lamp < 30; lamp++) {
            CHECKS.same("on, " + lamp, x.self(lamp, true), true);
            CHECKS.same("on already, " + lamp, x.self(lamp, true), false);
        }
        CHECKS.same("all lamps are SELF", x.rank(), 30);
    }

    private static void selfNoSuchLamp() {
        checkNoSuchLamp("on", (x, lamp) -> x.self(lamp, true));
        checkNoSuchLamp("off", (x, lamp) -> x.self(lamp, false));
    }

    private static void setEveryState() {
        for (int states : STATES) {
            for (int lamps : SIZES) {
                Row x = new Row(lamps, states);
                for (int v = states - 1; v >= 0; v--) {
                    String name = states + " states, " + lamps + " lamps, " + v + ": ";
                    CHECKS.same(name + "the last", x.set(lamps - 1, v), true);
                    CHECKS.same(name + "the last is so", x.at(lamps - 1), v);
                    CHECKS.same(name + "as it is already", x.set(lamps - 1, v), true);
                    CHECKS.same(name + "no other moves", x.apart(), v == 0 ? 0 : 1);
                    x.want(lamps - 1, 1);
                    x.set(lamps - 1, v);
                    CHECKS.same(name + "what is WANTED stays", x.apart(), v == 1 ? 0 : 1);
                    x.want(lamps - 1, 0);
                }
            }
        }
    }

    private static void setNoSuchState() {
        for (int states : STATES) {
            for (int v : new int[] {-1, states, states + 1, -states, 2 * states, LOW, HIGH}) {
                checkRefusedOn(states + " states, " + v, () -> withStates(states), x -> x.set(1, v));
            }
        }
        checkRefused("-1", x -> x.set(0, -1));
        checkRefused("7", x -> x.set(x.lamps - 1, 7));
    }

    /** Lamp 1 is in the last state and wanted in the one below. */
    private static Row withStates(int states) {
        Row x = new Row(3, states);
        x.join(0, 1);
        x.set(1, states - 1);
        x.want(1, states - 2);
        x.want(0, states - 1);
        return x;
    }

    private static void setNoSuchLamp() {
        checkNoSuchLamp("to 0", (x, lamp) -> x.set(lamp, 0));
        checkNoSuchLamp("to 1", (x, lamp) -> x.set(lamp, 1));
        checkNoSuchLamp("to no state", (x, lamp) -> x.set(lamp, 7));
        checkNoSuchLamp("to -1", (x, lamp) -> x.set(lamp, -1));
    }

    private static void wantEveryState() {
        for (int states : STATES) {
            for (int lamps : SIZES) {
                Row x = new Row(lamps, states);
                for (int v = states - 1; v >= 0; v--) {
                    String name = states + " states, " + lamps + " lamps, " + v + ": ";
                    CHECKS.same(name + "of the last", x.want(lamps - 1, v), true);
                    CHECKS.same(name + "answer", x.answer(lamps - 1), v);
                    CHECKS.same(name + "as it is already", x.want(lamps - 1, v), true);
                    CHECKS.same(name + "of no other", x.apart(), v == 0 ? 0 : 1);
                    CHECKS.same(name + "no state changes", x.at(lamps - 1), 0);
                    x.set(lamps - 1, 1);
                    x.want(lamps - 1, v);
                    CHECKS.same(name + "no state changes, 1 neither", x.at(lamps - 1), 1);
                    x.set(lamps - 1, 0);
                }
            }
        }
    }

    private static void wantNoSuchState() {
        for (int states : STATES) {
            for (int v : new int[] {-1, states, states + 1, -states, 2 * states, LOW, HIGH}) {
                checkRefusedOn(states + " states, " + v, () -> withStates(states), x -> x.want(1, v));
            }
        }
        checkRefused("-1", x -> x.want(0, -1));
        checkRefused("7", x -> x.want(x.lamps - 1, 7));
    }

    private static void wantNoSuchLamp() {
        checkNoSuchLamp("0", (x, lamp) -> x.want(lamp, 0));
        checkNoSuchLamp("1", (x, lamp) -> x.want(lamp, 1));
        checkNoSuchLamp("no state", (x, lamp) -> x.want(lamp, 7));
        checkNoSuchLamp("-1", (x, lamp) -> x.want(lamp, -1));
    }

    private static void pressFewestAndMost() {
        for (int states : STATES) {
            for (int n : new int[] {0, 1, 2, 998, 999, 1000}) {
                Row x = new Row(3, states);
                x.join(1, 2);
                x.set(2, states - 1);
                CHECKS.same(states + " states, " + n + " times", x.press(1, n), true);
                CHECKS.same(states + " states, states after " + n, x.states(),
                        "0 " + n % states + " " + (states - 1 + n) % states);
            }
        }
        CHECKS.doesNothing("0 times", EdgesOfChangesTest::someRow, x -> x.press(0, 0));
    }

    private static void pressTooFewOrMany() {
        for (int n : new int[] {-1, -2, -7, -1000, 1001, 1002, 1050, LOW, LOW + 1, HIGH - 1, HIGH}) {
            checkRefused(n + " times, the first", x -> x.press(0, n));
            checkRefused(n + " times, the last", x -> x.press(x.lamps - 1, n));
        }
    }

    private static void pressNoSuchLamp() {
        for (int n : new int[] {-1, 0, 1, 1000, 1001}) {
            checkNoSuchLamp(n + " times", (x, lamp) -> x.press(lamp, n));
        }
    }

    private static void atFirstAndLast() {
        for (int lamps : SIZES) {
            for (int states : STATES) {
                Row x = new Row(lamps, states);
                x.set(0, 1);
                x.set(lamps - 1, states - 1);
                String name = lamps + " lamps, " + states + " states: ";
                CHECKS.same(name + "first", x.at(0), lamps == 1 ? states - 1 : 1);
                CHECKS.same(name + "last", x.at(lamps - 1), states - 1);
                CHECKS.same(name + "one behind the first", lamps < 3 ? 0 : x.at(1), 0);
                CHECKS.same(name + "one ahead of the last", lamps < 3 ? 0 : x.at(lamps - 2), 0);
            }
        }
    }

    private static void atNoSuchLamp() {
        checkNoSuchLamp("at", (x, lamp) -> x.at(lamp));
    }

    private static void clearStates() {
        for (int lamps : SIZES) {
            for (int moved : new int[] {1, lamps}) {
                Row x = new Row(lamps, 7);
                for (int lamp = lamps - moved; lamp < lamps; lamp++) {
                    x.set(lamp, 6);
                }
                CHECKS.same(lamps + " lamps: moved", x.apart(), moved);
                CHECKS.same(lamps + " lamps, " + moved + " moved: fewest ahead of it", x.fewest(), moved);
                x.clear();
                CHECKS.same(lamps + " lamps, " + moved + " moved", x.states(), "0 ".repeat(lamps).trim());
                CHECKS.same(lamps + " lamps, " + moved + " moved: fewest", x.fewest(), 0);
            }
        }
    }

    private static void clearWanted() {
        for (int lamps : SIZES) {
            for (int changed : new int[] {1, lamps}) {
                Row x = new Row(lamps, 7);
                for (int lamp = lamps - changed; lamp < lamps; lamp++) {
                    x.want(lamp, 6);
                }
                CHECKS.same(lamps + " lamps: changed", x.apart(), changed);
                CHECKS.same(lamps + " lamps, " + changed + " changed: the last ahead of it", x.answer(lamps - 1), 6);
                x.clear();
                CHECKS.same(lamps + " lamps, " + changed + " changed", x.apart(), 0);
                CHECKS.same(lamps + " lamps, " + changed + " changed: the last", x.answer(lamps - 1), 0);
                x.set(lamps - 1, 1);
                CHECKS.same(lamps + " lamps, " + changed + " changed: 0 is WANTED", x.answer(lamps - 1), 6);
            }
        }
    }

    private static void clearNothing() {
        CHECKS.doesNothing("a new row", () -> new Row(5, 3), x -> x.clear());
        CHECKS.doesNothing("a new row of one lamp", () -> new Row(1, 7), x -> x.clear());
        CHECKS.doesNothing("a row that is clear", EdgesOfChangesTest::clearedRow, x -> x.clear());
        Row both = new Row(2, 3);
        both.set(0, 2);
        both.want(0, 2);
        both.clear();
        CHECKS.same("as WANTED ahead of it, state", both.at(0), 0);
        CHECKS.same("as WANTED ahead of it, apart", both.apart(), 0);
    }

    private static Row clearedRow() {
        Row x = someRow();
        x.clear();
        return x;
    }

    private static void clearKeepsJoined() {
        Row none = new Row(30, 3);
        none.clear();
        none.press(4, 1);
        CHECKS.same("none joined", none.apart(), 1);
        CHECKS.same("none joined, a pair", none.join(0, 29), true);
        Row one = someRow();
        one.clear();
        CHECKS.same("joined", one.join(0, 2), false);
        CHECKS.same("joined, the other way", one.join(2, 0), false);
        CHECKS.same("not joined", one.join(0, 1), true);
        Row all = new Row(30, 3);
        all.joinAll();
        all.press(7, 2);
        all.clear();
        CHECKS.same("all joined, states", all.apart(), 0);
        CHECKS.same("all joined, rank", all.rank(), 1);
        all.press(29, 1);
        CHECKS.same("all joined, a press", all.apart(), 30);
        CHECKS.same("all joined, a pair", all.join(0, 29), false);
    }

    private static void clearKeepsSelf() {
        for (int off : new int[] {0, 1, 29, 30}) {
            Row x = new Row(30, 3);
            x.selfOff(0, off);
            x.set(29, 1);
            x.clear();
            CHECKS.same(off + " not SELF: rank", x.rank(), 30 - off);
            for (int lamp = 0; lamp < 30; lamp++) {
                CHECKS.same(off + " not SELF: lamp " + lamp, x.self(lamp, false), lamp >= off);
            }
        }
    }
}
