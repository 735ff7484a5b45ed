import java.math.BigInteger;

/** The boundary cases that promises 8 to 16 name, a test for each sentence. */
public final class EdgesOfAnswersTest {
    private static final Checks CHECKS = new Checks();
    private static final int LOW = Checks.LOW;
    private static final int HIGH = Checks.HIGH;
    private static final int[] STATES = {2, 3, 5, 7};
    private static final int[] SIZES = {1, 2, 29, 30};
    // With so many FREE lamps there are 16,384, 19,683, 15,625 and 16,807 answers; with one more, too many.
    private static final int[] MOST_FREE = {14, 9, 6, 5};
    private static final String NO_LAMP = "\"ArrayIndexOutOfBoundsException: there is no such lamp\"";

    public static void main(String[] args) {
        promises8To10();
        promises11And12();
        promises13And14();
        promises15And16();
        CHECKS.end();
    }

    private static void promises8To10() {
        CHECKS.holds("Promise 8: \"How many lamps are not as WANTED\"", EdgesOfAnswersTest::apartNoneToAll);
        CHECKS.holds("Promise 8: \"How many lamps are not as WANTED\"", EdgesOfAnswersTest::apartByWishes);
        CHECKS.holds("Promise 9: \"How many lamps are BOUND\"", EdgesOfAnswersTest::rankNoneToAll);
        CHECKS.holds("Promise 9: \"How many lamps are BOUND\"", EdgesOfAnswersTest::rankOfLampsAlike);
        CHECKS.holds("Promise 10: \"Whether there is an answer\"", EdgesOfAnswersTest::solvableWithAllBound);
        CHECKS.holds("Promise 10: \"Whether there is an answer\"", EdgesOfAnswersTest::solvableWithAllFree);
        CHECKS.holds("Promise 10: \"Whether there is an answer\"", EdgesOfAnswersTest::solvableWithLampsAlike);
    }

    private static void promises11And12() {
        CHECKS.holds("Promise 11: \"How often a lamp is pressed by THE ANSWER\"", EdgesOfAnswersTest::answerIsThere);
        CHECKS.holds("Promise 11: \"-1 when there is none\"", EdgesOfAnswersTest::answerIsNone);
        CHECKS.holds("Promise 11: " + NO_LAMP, EdgesOfAnswersTest::answerNoSuchLamp);
        CHECKS.holds("Promise 12: \"by its FREE lamp's number, from 0 on\"", EdgesOfAnswersTest::quietInOrder);
        CHECKS.holds("Promise 12: \"-1 when there is none such\"", EdgesOfAnswersTest::quietNoneSuch);
        CHECKS.holds("Promise 12: \"How often a lamp is pressed by the k-th QUIET pattern\"",
                EdgesOfAnswersTest::quietWhateverTheStates);
        CHECKS.holds("Promise 12: " + NO_LAMP, EdgesOfAnswersTest::quietNoSuchLamp);
    }

    private static void promises13And14() {
        CHECKS.holds("Promise 13: \"Digit i, in decimal, the lowest one being digit 0\"",
                EdgesOfAnswersTest::countEveryPower);
        CHECKS.holds("Promise 13: \"of how many answers there are\"", EdgesOfAnswersTest::countNone);
        CHECKS.holds("Promise 13: \"-1 when there is none such\"", EdgesOfAnswersTest::countNoSuchDigit);
        CHECKS.holds("Promise 14: \"The fewest presses .. (all lamps' together)\"",
                EdgesOfAnswersTest::fewestNoneToMost);
        CHECKS.holds("Promise 14: \"-1 when there is none\"", EdgesOfAnswersTest::fewestOfNone);
        CHECKS.holds("Promise 14: \"-2 when there are more than 20,000 answers\"",
                EdgesOfAnswersTest::fewestOfTooMany);
        CHECKS.holds("Promise 14: \"-2 when there are more than 20,000 answers\"",
                EdgesOfAnswersTest::fewestOfLampsAlike);
        CHECKS.holds("Promise 14: \"-1 when there is none; -2 when there are more than 20,000 answers\"",
                EdgesOfAnswersTest::noneIsNotTooMany);
    }

    private static void promises15And16() {
        CHECKS.holds("Promise 15: \"least by its first lamp that differs\"", EdgesOfAnswersTest::bestOfTies);
        CHECKS.holds("Promise 15: \"least by its first lamp that differs\"", EdgesOfAnswersTest::bestOfTiesOnAPath);
        CHECKS.holds("Promise 15: \"that one of the answers with fewest presses\"",
                EdgesOfAnswersTest::bestHasFewestPresses);
        CHECKS.holds("Promise 15: \"-1 .. as fewest()\"", EdgesOfAnswersTest::bestOfNone);
        CHECKS.holds("Promise 15: \"-2 as fewest()\"", EdgesOfAnswersTest::bestOfTooMany);
        CHECKS.holds("Promise 15: " + NO_LAMP, EdgesOfAnswersTest::bestNoSuchLamp);
        CHECKS.holds("Promise 16: \"make the state of a lamp one more and leave all others\"",
                EdgesOfAnswersTest::aloneNoneToAll);
        CHECKS.holds("Promise 16: \"make the state of a lamp one more and leave all others\"",
                EdgesOfAnswersTest::aloneByResidues);
        CHECKS.holds("Promise 16: \"make the state of a lamp one more and leave all others\"",
                EdgesOfAnswersTest::aloneWhateverTheStates);
        CHECKS.holds("Promise 16: " + NO_LAMP, EdgesOfAnswersTest::aloneNoSuchLamp);
    }

    private static Row withIdle(int lamps, int states, int idle) {
        Row x = new Row(lamps, states);
        x.selfOff(0, idle);
        return x;
    }

    private static Row withAllAlike(int lamps, int states) {
        Row x = new Row(lamps, states);
        x.joinAll();
        return x;
    }

    private static void apartNoneToAll() {
        for (int lamps : SIZES) {
            for (int states : STATES) {
                Row x = new Row(lamps, states);
                String name = lamps + " lamps, " + states + " states: ";
                CHECKS.same(name + "none", x.apart(), 0);
                for (int lamp = 0; lamp < lamps; lamp++) {
                    x.set(lamp, lamp % 2 == 0 ? states - 1 : 1);
                    CHECKS.same(name + "up to " + lamp, x.apart(), lamp + 1);
                }
                x.set(0, 0);
                CHECKS.same(name + "all but the first", x.apart(), lamps - 1);
                x.set(0, 1);
                x.set(lamps - 1, 0);
                CHECKS.same(name + "all but the last", x.apart(), lamps - 1);
            }
        }
    }

    private static void apartByWishes() {
        for (int states : STATES) {
            Row x = new Row(2, states);
            x.want(0, states - 1);
            x.press(0, states - 2);
            CHECKS.same(states + " states: one press short", x.apart(), 1);
            x.press(0, 1);
            CHECKS.same(states + " states: just there", x.apart(), 0);
            x.press(0, 1);
            CHECKS.same(states + " states: one press too many", x.apart(), 1);
            x.press(0, states - 1);
            CHECKS.same(states + " states: round again", x.apart(), 0);
        }
    }

    private static void rankNoneToAll() {
        for (int lamps : SIZES) {
            for (int states : STATES) {
                String name = lamps + " lamps, " + states + " states: ";
                CHECKS.same(name + "all", new Row(lamps, states).rank(), lamps);
                CHECKS.same(name + "all but one", withIdle(lamps, states, 1).rank(), lamps - 1);
                CHECKS.same(name + "one", withIdle(lamps, states, lamps - 1).rank(), 1);
                CHECKS.same(name + "none", withIdle(lamps, states, lamps).rank(), 0);
            }
        }
    }

    private static void rankOfLampsAlike() {
        for (int lamps : SIZES) {
            for (int states : STATES) {
                Row x = withAllAlike(lamps, states);
                String name = lamps + " lamps, " + states + " states: ";
                CHECKS.same(name + "all alike", x.rank(), 1);
                x.self(lamps - 1, false);
                CHECKS.same(name + "all but the last", x.rank(), lamps == 1 ? 0 : 2);
            }
        }
    }

    private static void solvableWithAllBound() {
        for (int lamps : SIZES) {
            for (int states : STATES) {
                Row x = new Row(lamps, states);
                String name = lamps + " lamps, " + states + " states: ";
                CHECKS.same(name + "none apart", x.solvable(), true);
                x.want(lamps - 1, states - 1);
                CHECKS.same(name + "one apart", x.solvable(), true);
                for (int lamp = 0; lamp < lamps; lamp++) {
                    x.want(lamp, 1);
                }
                CHECKS.same(name + "all apart", x.solvable(), true);
            }
        }
    }

    private static void solvableWithAllFree() {
        for (int lamps : SIZES) {
            for (int states : STATES) {
                Row x = withIdle(lamps, states, lamps);
                String name = lamps + " lamps, " + states + " states: ";
                CHECKS.same(name + "none apart", x.solvable(), true);
                for (int lamp = 0; lamp < lamps; lamp++) {
                    x.want(lamp, states - 1);
                    CHECKS.same(name + lamp + " apart", x.solvable(), false);
                    x.set(lamp, states - 1);
                    CHECKS.same(name + lamp + " as WANTED", x.solvable(), true);
                }
            }
        }
    }

    private static void solvableWithLampsAlike() {
        for (int states : STATES) {
            Row x = withAllAlike(20, states);
            CHECKS.same(states + " states: none apart", x.solvable(), true);
            for (int lamp = 0; lamp < 19; lamp++) {
                x.want(lamp, states - 1);
                CHECKS.same(states + " states: up to " + lamp, x.solvable(), false);
            }
            x.want(19, states - 1);
            CHECKS.same(states + " states: all alike", x.solvable(), true);
            x.set(19, 1);
            CHECKS.same(states + " states: the last has moved", x.solvable(), false);
        }
    }

    private static void answerIsThere() {
        for (int lamps : SIZES) {
            for (int states : STATES) {
                Row x = new Row(lamps, states);
                String name = lamps + " lamps, " + states + " states: ";
                CHECKS.same(name + "nothing to do", x.answer(lamps - 1), 0);
                x.want(lamps - 1, 1);
                CHECKS.same(name + "once", x.answer(lamps - 1), 1);
                x.want(lamps - 1, states - 1);
                CHECKS.same(name + "as often as can be", x.answer(lamps - 1), states - 1);
                CHECKS.same(name + "the first", x.answer(0), lamps == 1 ? states - 1 : 0);
            }
        }
    }

    private static void answerIsNone() {
        for (int states : STATES) {
            Row x = withIdle(3, states, 1);
            CHECKS.same(states + " states: 0 is no -1", x.answers(), "0 0 0");
            x.want(0, 1);
            x.want(1, 1);
            CHECKS.same(states + " states: none", x.answers(), "-1 -1 -1");
            x.want(0, 0);
            CHECKS.same(states + " states: there again", x.answers(), "0 1 0");
            Row one = withIdle(1, states, 1);
            CHECKS.same(states + " states: one idle lamp", one.answer(0), 0);
            one.set(0, 1);
            CHECKS.same(states + " states: one idle lamp apart", one.answer(0), -1);
            Row all = withIdle(30, states, 30);
            CHECKS.same(states + " states: all idle", all.answer(29), 0);
            all.set(29, 1);
            CHECKS.same(states + " states: all idle, the last apart", all.answer(0), -1);
        }
    }

    /** There is one answer, there is none, there are too many. */
    private static void checkNoSuchLamp(String what, LampCall call) {
        for (int lamps : SIZES) {
            Row one = new Row(lamps, 3);
            CHECKS.noSuchLamps(what + ", one answer", lamps, lamp -> call.on(one, lamp));
            Row none = withIdle(lamps, 3, lamps);
            none.set(0, 1);
            CHECKS.noSuchLamps(what + ", no answer", lamps, lamp -> call.on(none, lamp));
            Row many = withIdle(lamps, 3, lamps);
            CHECKS.noSuchLamps(what + ", many answers", lamps, lamp -> call.on(many, lamp));
            Row within = new Row(lamps, 3);
            call.on(within, 0);
            call.on(within, lamps - 1);
            CHECKS.doesNothing(what, () -> new Row(2, 5),
                    x -> CHECKS.noSuchLamps(what, 2, lamp -> call.on(x, lamp)));
        }
    }

    private interface LampCall {
        void on(Row x, int lamp);
    }

    private static void answerNoSuchLamp() {
        checkNoSuchLamp("answer", (x, lamp) -> x.answer(lamp));
    }

    private static void quietInOrder() {
        for (int states : STATES) {
            Row x = new Row(6, states);
            x.self(1, false);
            x.join(0, 3);
            x.join(4, 5);
            String back = states - 1 + "";
            CHECKS.same(states + " states: lamp 1's", x.quiets(0), "0 1 0 0 0 0");
            CHECKS.same(states + " states: lamp 3's", x.quiets(1), back + " 0 0 1 0 0");
            CHECKS.same(states + " states: lamp 5's", x.quiets(2), "0 0 0 0 " + back + " 1");
            CHECKS.same(states + " states: no more", x.quiets(3), "-1 -1 -1 -1 -1 -1");
            Row all = withIdle(30, states, 30);
            for (int k = 0; k < 30; k++) {
                CHECKS.same(states + " states: all FREE, own " + k, all.quiet(k, k), 1);
                CHECKS.same(states + " states: all FREE, next of " + k, all.quiet(k, (k + 1) % 30), 0);
            }
        }
    }

    private static void quietNoneSuch() {
        for (int lamps : SIZES) {
            for (int states : STATES) {
                checkQuietNumbers(new Row(lamps, states), 0);
                checkQuietNumbers(withIdle(lamps, states, 1), 1);
                checkQuietNumbers(withIdle(lamps, states, lamps - 1), lamps - 1);
                checkQuietNumbers(withIdle(lamps, states, lamps), lamps);
                checkQuietNumbers(withAllAlike(lamps, states), lamps - 1);
            }
        }
    }

    private static void checkQuietNumbers(Row x, int free) {
        String name = x.lamps + " lamps, " + free + " FREE: ";
        for (int k : new int[] {LOW, LOW + 1, -32, -2, -1, 30, 31, 32, HIGH - 1, HIGH}) {
            CHECKS.same(name + k, x.quiet(k, 0), -1);
        }
        CHECKS.same(name + "the first", x.quiet(0, x.lamps - 1) >= 0, free > 0);
        CHECKS.same(name + "the last", x.quiet(free - 1, x.lamps - 1) >= 0, free > 0);
        CHECKS.same(name + "behind the last", x.quiet(free, x.lamps - 1), -1);
        CHECKS.same(name + "far behind the last", x.quiet(free + 1, 0), -1);
    }

    private static void quietWhateverTheStates() {
        Row x = withAllAlike(3, 5);
        x.set(0, 4);
        CHECKS.same("no answer", x.solvable(), false);
        CHECKS.same("a pattern all the same", x.quiets(0), "4 1 0");
        x.self(2, false);
        CHECKS.same("one fewer is FREE", x.quiets(0), "4 1 0");
        CHECKS.same("the second is gone", x.quiets(1), "-1 -1 -1");
        x.self(1, false);
        CHECKS.same("none is FREE", x.quiets(0), "-1 -1 -1");
    }

    private static void quietNoSuchLamp() {
        checkNoSuchLamp("pattern 0", (x, lamp) -> x.quiet(0, lamp));
        checkNoSuchLamp("pattern -1", (x, lamp) -> x.quiet(-1, lamp));
        checkNoSuchLamp("pattern 30", (x, lamp) -> x.quiet(30, lamp));
        checkNoSuchLamp("a pattern of its number", (x, lamp) -> x.quiet(lamp, lamp));
    }

    /** From one answer to 7 to the 30th: one digit more, beyond an int and beyond a long. */
    private static void countEveryPower() {
        for (int states : STATES) {
            for (int free = 0; free <= 30; free++) {
                Row x = withIdle(30, states, free);
                CHECKS.same(states + " states, " + free + " FREE", x.digits(),
                        BigInteger.valueOf(states).pow(free).toString());
            }
        }
    }

    private static void countNone() {
        for (int states : STATES) {
            for (int free : new int[] {1, 2, 29, 30}) {
                Row x = withIdle(30, states, free);
                x.want(0, 1);
                CHECKS.same(states + " states, " + free + " FREE, none", x.digits(), "0");
                x.set(0, 1);
                CHECKS.same(states + " states, " + free + " FREE, not none", x.digits(),
                        BigInteger.valueOf(states).pow(free).toString());
            }
        }
    }

    private static void countNoSuchDigit() {
        checkDigitNumbers("one answer", new Row(30, 7), 1);
        checkDigitNumbers("8 answers", withIdle(30, 2, 3), 1);
        checkDigitNumbers("16 answers", withIdle(30, 2, 4), 2);
        checkDigitNumbers("9 answers", withIdle(30, 3, 2), 1);
        checkDigitNumbers("27 answers", withIdle(30, 3, 3), 2);
        checkDigitNumbers("5 answers", withIdle(30, 5, 1), 1);
        checkDigitNumbers("25 answers", withIdle(30, 5, 2), 2);
        checkDigitNumbers("7 answers", withIdle(30, 7, 1), 1);
        checkDigitNumbers("49 answers", withIdle(30, 7, 2), 2);
        checkDigitNumbers("7 to the 29th", withIdle(30, 7, 29), 25);
        checkDigitNumbers("7 to the 30th", withIdle(30, 7, 30), 26);
        Row none = withIdle(30, 7, 30);
        none.want(0, 1);
        checkDigitNumbers("no answers", none, 1);
    }

    private static void checkDigitNumbers(String what, Row x, int digits) {
        CHECKS.same(what + ": digit 0", x.count(0) >= 0, true);
        CHECKS.same(what + ": the last digit", x.count(digits - 1) >= 0, true);
        for (int i : new int[] {digits, digits + 1, 26, 27, 32, -1, -2, -26, LOW, LOW + 1, HIGH - 1, HIGH}) {
            CHECKS.same(what + ": digit " + i, x.count(i), -1);
        }
    }

    private static void fewestNoneToMost() {
        for (int lamps : SIZES) {
            for (int states : STATES) {
                Row x = new Row(lamps, states);
                String name = lamps + " lamps, " + states + " states: ";
                CHECKS.same(name + "nothing to do", x.fewest(), 0);
                x.want(lamps - 1, 1);
                CHECKS.same(name + "one press", x.fewest(), 1);
                for (int lamp = 0; lamp < lamps; lamp++) {
                    x.want(lamp, states - 1);
                }
                CHECKS.same(name + "all as often as can be", x.fewest(), lamps * (states - 1));
                x.press(0, 1);
                CHECKS.same(name + "one press fewer", x.fewest(), lamps * (states - 1) - 1);
            }
        }
    }

    private static void fewestOfNone() {
        for (int states : STATES) {
            for (int free : new int[] {1, 2, 5}) {
                Row x = withIdle(20, states, free);
                String name = states + " states, " + free + " FREE: ";
                CHECKS.same(name + "0 is no -1", x.fewest(), 0);
                x.want(free - 1, 1);
                CHECKS.same(name + "none", x.fewest(), -1);
                x.want(free - 1, 0);
                CHECKS.same(name + "there again", x.fewest(), 0);
            }
        }
    }

    private static void fewestOfTooMany() {
        for (int i = 0; i < 4; i++) {
            for (int free = 0; free <= 30; free++) {
                Row x = withIdle(30, STATES[i], free);
                String name = STATES[i] + " states, " + free + " FREE: ";
                CHECKS.same(name + "nothing to do", x.fewest(), free > MOST_FREE[i] ? -2 : 0);
                if (free < 30) {
                    x.want(29, STATES[i] - 1);
                    CHECKS.same(name + "one lamp", x.fewest(), free > MOST_FREE[i] ? -2 : STATES[i] - 1);
                }
            }
        }
    }

    /** All lamps but the first are FREE, and each of the answers presses others. */
    private static void fewestOfLampsAlike() {
        for (int i = 0; i < 4; i++) {
            for (int free = MOST_FREE[i] - 1; free <= MOST_FREE[i] + 1; free++) {
                int last = STATES[i] - 1;
                Row x = withAllAlike(free + 1, STATES[i]);
                for (int lamp = 0; lamp <= free; lamp++) {
                    x.want(lamp, last);
                }
                boolean due = free > MOST_FREE[i];
                String name = STATES[i] + " states, " + free + " FREE: ";
                CHECKS.same(name + "fewest", x.fewest(), due ? -2 : last);
                CHECKS.same(name + "best of the first", x.best(0), due ? -2 : 0);
                CHECKS.same(name + "best of the last", x.best(free), due ? -2 : last);
            }
        }
    }

    private static void noneIsNotTooMany() {
        for (int i = 0; i < 4; i++) {
            for (int free : new int[] {MOST_FREE[i], MOST_FREE[i] + 1, 29, 30}) {
                Row x = withIdle(30, STATES[i], free);
                x.want(0, 1);
                String name = STATES[i] + " states, " + free + " FREE: ";
                CHECKS.same(name + "fewest of none", x.fewest(), -1);
                CHECKS.same(name + "best of none", x.best(29), -1);
                x.want(0, 0);
                boolean due = free > MOST_FREE[i];
                CHECKS.same(name + "fewest", x.fewest(), due ? -2 : 0);
                CHECKS.same(name + "best", x.best(29), due ? -2 : 0);
                CHECKS.same(name + "solvable, though", x.solvable(), true);
                CHECKS.same(name + "THE ANSWER, though", x.answer(29), 0);
            }
        }
    }

    private static void bestOfTies() {
        Row two = withAllAlike(2, 2);
        wantAll(two, 1, 1);
        CHECKS.same("the first lamp differs", two.bests(), "0 1");
        Row pairs = new Row(5, 3);
        pairs.join(0, 4);
        pairs.join(1, 3);
        wantAll(pairs, 2, 1, 1, 1, 2);
        CHECKS.same("one differs after the other", pairs.bests(), "0 0 1 1 2");
        pairs.clear();
        pairs.want(3, 1);
        pairs.want(1, 1);
        CHECKS.same("the first lamp is the same", pairs.bests(), "0 0 0 1 0");
        Row many = withAllAlike(15, 2);
        for (int lamp = 0; lamp < 15; lamp++) {
            many.want(lamp, 1);
        }
        CHECKS.same("among 16,384", many.bests(), "0 0 0 0 0 0 0 0 0 0 0 0 0 0 1");
        Row only = new Row(3, 7);
        only.want(0, 6);
        CHECKS.same("no other one", only.bests(), "6 0 0");
    }

    /**
     * The lamps 2 1 0 3 in a row, the two in the middle not SELF: three answers have as few presses,
     * and the least by its first lamp is neither the least nor the most by its last.
     */
    private static void bestOfTiesOnAPath() {
        Row three = path(3);
        wantAll(three, 2, 2, 0, 1);
        CHECKS.same("0 1 2 1 against 1 2 1 0 and 2 0 0 2", three.bests(), "0 1 2 1");
        Row five = path(5);
        wantAll(five, 4, 2, 0, 1);
        CHECKS.same("0 3 2 1 against 1 4 1 0 and 2 0 0 4", five.bests(), "0 3 2 1");
        Row two = new Row(5, 2);
        two.join(0, 1);
        two.join(0, 2);
        two.join(0, 3);
        two.join(0, 4);
        two.join(1, 2);
        wantAll(two, 0, 1, 1, 1, 0);
        CHECKS.same("0 0 1 1 0 against 0 1 0 1 0 and 1 0 0 0 1", two.bests(), "0 0 1 1 0");
    }

    private static Row path(int states) {
        Row x = new Row(4, states);
        x.selfOff(0, 2);
        x.join(0, 1);
        x.join(1, 2);
        x.join(0, 3);
        return x;
    }

    private static void wantAll(Row x, int... wanted) {
        for (int lamp = 0; lamp < wanted.length; lamp++) {
            x.want(lamp, wanted[lamp]);
        }
    }

    /** Lamp 2 does what 0 and 1 do together: pressing 0 alone is fewer than pressing 1 and 2. */
    private static void bestHasFewestPresses() {
        Row x = new Row(3, 2);
        x.join(0, 2);
        x.join(1, 2);
        x.self(2, false);
        x.press(0, 1);
        CHECKS.same("0 1 1 is less, but has more presses", x.bests(), "1 0 0");
        CHECKS.same("fewest", x.fewest(), 1);
        x.press(1, 1);
        CHECKS.same("fewer than THE ANSWER", x.bests(), "0 0 1");
        CHECKS.same("THE ANSWER", x.answers(), "1 1 0");
        CHECKS.same("fewest again", x.fewest(), 1);
        x.press(2, 1);
        CHECKS.same("nothing to do", x.bests(), "0 0 0");
    }

    private static void bestOfNone() {
        for (int states : STATES) {
            Row x = withIdle(3, states, 1);
            CHECKS.same(states + " states: 0 is no -1", x.bests(), "0 0 0");
            x.want(0, 1);
            CHECKS.same(states + " states: none", x.bests(), "-1 -1 -1");
            CHECKS.same(states + " states: as fewest", x.fewest(), -1);
            x.want(0, 0);
            x.want(2, 1);
            CHECKS.same(states + " states: there again", x.bests(), "0 0 1");
        }
    }

    private static void bestOfTooMany() {
        for (int i = 0; i < 4; i++) {
            for (int free = MOST_FREE[i] - 1; free <= MOST_FREE[i] + 1; free++) {
                Row x = withIdle(30, STATES[i], free);
                x.want(29, 1);
                boolean due = free > MOST_FREE[i];
                String name = STATES[i] + " states, " + free + " FREE: ";
                CHECKS.same(name + "the first", x.best(0), due ? -2 : 0);
                CHECKS.same(name + "the last", x.best(29), due ? -2 : 1);
                CHECKS.same(name + "as fewest", x.fewest(), due ? -2 : 1);
            }
            Row all = withIdle(30, STATES[i], 30);
            CHECKS.same(STATES[i] + " states: all FREE", all.best(29), -2);
        }
    }

    private static void bestNoSuchLamp() {
        checkNoSuchLamp("best", (x, lamp) -> x.best(lamp));
    }

    private static void aloneNoneToAll() {
        for (int lamps : SIZES) {
            for (int states : STATES) {
                checkAlone(new Row(lamps, states), 0, lamps);
                checkAlone(withIdle(lamps, states, 1), 1, lamps);
                checkAlone(withIdle(lamps, states, lamps - 1), lamps - 1, lamps);
                checkAlone(withIdle(lamps, states, lamps), lamps, lamps);
                checkAlone(withAllAlike(lamps, states), lamps == 1 ? 0 : lamps, lamps);
            }
        }
    }

    /** The lamps from .. to - 1 can be changed alone, and no others. */
    private static void checkAlone(Row x, int from, int to) {
        for (int lamp = 0; lamp < x.lamps; lamp++) {
            CHECKS.same(x.lamps + " lamps, from " + from + ": " + lamp, x.alone(lamp), lamp >= from && lamp < to);
        }
    }

    /** A middle that is not SELF and its leaves: none alone just when there are as many leaves as states. */
    private static void aloneByResidues() {
        for (int states : STATES) {
            for (int leaves = states - 1; leaves <= states + 1; leaves++) {
                Row x = new Row(leaves + 2, states);
                x.self(0, false);
                for (int leaf = 1; leaf <= leaves; leaf++) {
                    x.join(0, leaf);
                }
                checkAlone(x, leaves == states ? leaves + 1 : 0, leaves + 2);
            }
        }
    }

    private static void aloneWhateverTheStates() {
        for (int states : STATES) {
            Row x = withAllAlike(3, states);
            x.self(2, false);
            CHECKS.same(states + " states: at first", x.alones(), "0 0 1");
            x.set(2, states - 1);
            x.want(0, 1);
            CHECKS.same(states + " states: no answer, in the last state", x.alones(), "0 0 1");
            x.self(1, false);
            CHECKS.same(states + " states: all but the first not SELF", x.alones(), "1 1 1");
            x.self(0, false);
            CHECKS.same(states + " states: none SELF", x.alones(), states == 2 ? "0 0 0" : "1 1 1");
        }
    }

    private static void aloneNoSuchLamp() {
        checkNoSuchLamp("alone", (x, lamp) -> x.alone(lamp));
    }
}
