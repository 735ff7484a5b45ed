/** Each promise of the document by hand: ordinary inputs, some edges, wrong inputs. */
public final class PromisesTest {
    private static final int LOW = Checks.LOW;
    private static final int HIGH = Checks.HIGH;
    private static final Checks CHECKS = new Checks();

    public static void main(String[] args) {
        promise1NewObject();
        promise1Lamps();
        promise1States();
        promise2Join();
        promise3Self();
        promise4Set();
        promise5Want();
        promise6Press();
        promise7At();
        promise8Apart();
        promise9Rank();
        promise10Solvable();
        promise11Answer();
        promise12Quiet();
        promise13Count();
        promise14Fewest();
        promise14Limit();
        promise15Best();
        promise15Limit();
        promise16Alone();
        promise17Clear();
        lampIsLookedAtFirst();
        CHECKS.end();
    }

    private static void promise1NewObject() {
        Row x = new Row(4, 5);
        for (int lamp = 0; lamp < 4; lamp++) {
            CHECKS.same("1: at " + lamp, x.at(lamp), 0);
            CHECKS.same("1: self already " + lamp, x.self(lamp, true), false);
        }
        CHECKS.same("1: apart", x.apart(), 0);
        CHECKS.same("1: rank", x.rank(), 4);
        x.press(1, 1);
        CHECKS.same("1: none joined", x.states(), "0 1 0 0");
    }

    private static void promise1Lamps() {
        checkLamps(LOW, 1);
        checkLamps(-1, 1);
        checkLamps(0, 1);
        checkLamps(1, 1);
        checkLamps(2, 2);
        checkLamps(29, 29);
        checkLamps(30, 30);
        checkLamps(31, 30);
        checkLamps(HIGH, 30);
    }

    private static void checkLamps(int lamps, int held) {
        Row x = new Row(lamps, 2);
        CHECKS.same("1: rank of " + lamps, x.rank(), held);
        CHECKS.same("1: last of " + lamps, x.at(held - 1), 0);
        CHECKS.noSuchLamp("1: behind the last of " + lamps, () -> x.at(held));
    }

    private static void promise1States() {
        checkStates(LOW, 2);
        checkStates(-1, 2);
        checkStates(0, 2);
        checkStates(1, 2);
        checkStates(2, 2);
        checkStates(3, 3);
        checkStates(4, 3);
        checkStates(5, 5);
        checkStates(6, 5);
        checkStates(7, 7);
        checkStates(8, 7);
        checkStates(11, 7);
        checkStates(HIGH, 7);
    }

    private static void checkStates(int states, int held) {
        Row x = new Row(1, states);
        CHECKS.same("1: highest of " + states, x.set(0, held - 1), true);
        CHECKS.same("1: one above " + states, x.set(0, held), false);
        x.press(0, 1);
        CHECKS.same("1: round of " + states, x.at(0), 0);
    }

    private static void promise2Join() {
        Row x = new Row(4, 3);
        CHECKS.same("2: join", x.join(2, 0), true);
        CHECKS.same("2: again", x.join(2, 0), false);
        CHECKS.same("2: the other way", x.join(0, 2), false);
        CHECKS.same("2: one lamp", x.join(1, 1), false);
        CHECKS.same("2: one lamp stays SELF", x.self(1, true), false);
        x.press(0, 1);
        CHECKS.same("2: press of 0", x.states(), "1 0 1 0");
        x.press(2, 1);
        CHECKS.same("2: press of 2", x.states(), "2 0 2 0");
        x.self(1, false);
        CHECKS.same("2: one lamp that is not SELF", x.join(1, 1), false);
        CHECKS.same("2: it stays so", x.self(1, false), false);
        CHECKS.noSuchLamp("2: a is 4", () -> x.join(4, 0));
        CHECKS.noSuchLamp("2: b is 4", () -> x.join(0, 4));
        CHECKS.noSuchLamp("2: a is -1", () -> x.join(-1, 0));
        CHECKS.noSuchLamp("2: b is -1", () -> x.join(0, -1));
        CHECKS.noSuchLamp("2: both are 4", () -> x.join(4, 4));
        CHECKS.noSuchLamp("2: both are -1", () -> x.join(-1, -1));
        CHECKS.noSuchLamp("2: a is 32, which a shift takes for 0", () -> x.join(32, 1));
        CHECKS.noSuchLamp("2: b is lowest", () -> x.join(1, LOW));
        CHECKS.noSuchLamp("2: b is highest", () -> x.join(1, HIGH));
        x.press(3, 1);
        CHECKS.same("2: wrong calls joined nothing", x.states(), "2 0 2 1");
    }

    private static void promise3Self() {
        Row x = new Row(3, 2);
        x.join(0, 1);
        CHECKS.same("3: on already", x.self(0, true), false);
        CHECKS.same("3: off", x.self(0, false), true);
        CHECKS.same("3: off already", x.self(0, false), false);
        x.press(0, 1);
        CHECKS.same("3: press when off", x.states(), "0 1 0");
        CHECKS.same("3: the joined one is SELF still", x.self(1, true), false);
        CHECKS.same("3: on again", x.self(0, true), true);
        x.press(0, 1);
        CHECKS.same("3: press when on", x.states(), "1 0 0");
        CHECKS.noSuchLamps("3: self", 3, lamp -> x.self(lamp, true));
        CHECKS.noSuchLamps("3: self off", 3, lamp -> x.self(lamp, false));
    }

    private static void promise4Set() {
        Row x = new Row(3, 5);
        CHECKS.same("4: set", x.set(1, 4), true);
        CHECKS.same("4: the same", x.set(1, 4), true);
        CHECKS.same("4: above", x.set(1, 5), false);
        CHECKS.same("4: below", x.set(1, -1), false);
        CHECKS.same("4: lowest", x.set(1, LOW), false);
        CHECKS.same("4: highest", x.set(1, HIGH), false);
        CHECKS.same("4: states", x.states(), "0 4 0");
        CHECKS.same("4: nothing else is WANTED", x.apart(), 1);
        CHECKS.same("4: to 0", x.set(1, 0), true);
        CHECKS.same("4: states then", x.states(), "0 0 0");
        CHECKS.noSuchLamps("4: set", 3, lamp -> x.set(lamp, 1));
        CHECKS.noSuchLamps("4: set to no state", 3, lamp -> x.set(lamp, 9));
    }

    private static void promise5Want() {
        Row x = new Row(3, 5);
        CHECKS.same("5: want", x.want(1, 3), true);
        CHECKS.same("5: the same", x.want(1, 3), true);
        CHECKS.same("5: above", x.want(1, 5), false);
        CHECKS.same("5: below", x.want(1, -1), false);
        CHECKS.same("5: lowest", x.want(1, LOW), false);
        CHECKS.same("5: highest", x.want(1, HIGH), false);
        CHECKS.same("5: states stay", x.states(), "0 0 0");
        CHECKS.same("5: answer", x.answers(), "0 3 0");
        x.set(1, 4);
        CHECKS.same("5: answer from above", x.answers(), "0 4 0");
        CHECKS.noSuchLamps("5: want", 3, lamp -> x.want(lamp, 1));
        CHECKS.noSuchLamps("5: want no state", 3, lamp -> x.want(lamp, 9));
    }

    private static void promise6Press() {
        Row x = new Row(3, 7);
        x.join(0, 1);
        CHECKS.same("6: none", x.press(0, 0), true);
        CHECKS.same("6: states after none", x.states(), "0 0 0");
        CHECKS.same("6: 1,000", x.press(0, 1000), true);
        CHECKS.same("6: states after 1,000", x.states(), "6 6 0");
        CHECKS.same("6: 1,001", x.press(0, 1001), false);
        CHECKS.same("6: -1", x.press(0, -1), false);
        CHECKS.same("6: lowest", x.press(0, LOW), false);
        CHECKS.same("6: highest", x.press(0, HIGH), false);
        CHECKS.same("6: states after wrong calls", x.states(), "6 6 0");
        CHECKS.same("6: 7, a full round", x.press(0, 7), true);
        CHECKS.same("6: states after a round", x.states(), "6 6 0");
        CHECKS.same("6: 2", x.press(2, 2), true);
        CHECKS.same("6: only what it is joined to", x.states(), "6 6 2");
        CHECKS.same("6: nothing becomes WANTED", x.apart(), 3);
        CHECKS.noSuchLamps("6: press", 3, lamp -> x.press(lamp, 1));
        CHECKS.noSuchLamps("6: press -1 times", 3, lamp -> x.press(lamp, -1));
    }

    private static void promise7At() {
        Row x = new Row(30, 3);
        x.set(29, 2);
        x.set(0, 1);
        CHECKS.same("7: first", x.at(0), 1);
        CHECKS.same("7: middle", x.at(15), 0);
        CHECKS.same("7: last", x.at(29), 2);
        x.want(15, 2);
        CHECKS.same("7: what is WANTED is no state", x.at(15), 0);
        CHECKS.noSuchLamps("7: at", 30, lamp -> x.at(lamp));
    }

    private static void promise8Apart() {
        Row x = new Row(4, 3);
        x.set(0, 1);
        x.want(1, 2);
        x.set(2, 2);
        x.want(2, 1);
        CHECKS.same("8: three", x.apart(), 3);
        x.want(0, 1);
        CHECKS.same("8: two", x.apart(), 2);
        x.press(1, 2);
        x.press(2, 2);
        CHECKS.same("8: none", x.apart(), 0);
        CHECKS.same("8: states", x.states(), "1 2 1 0");
    }

    private static void promise9Rank() {
        Row x = new Row(3, 2);
        CHECKS.same("9: all", x.rank(), 3);
        x.join(0, 1);
        CHECKS.same("9: two alike", x.rank(), 2);
        x.self(1, false);
        CHECKS.same("9: no more alike", x.rank(), 3);
        x.self(0, false);
        x.self(2, false);
        CHECKS.same("9: one without effect", x.rank(), 2);
        Row ring = new Row(3, 3);
        ring.join(0, 1);
        ring.join(1, 2);
        ring.join(2, 0);
        CHECKS.same("9: all alike", ring.rank(), 1);
        Row path = new Row(3, 3);
        path.join(0, 1);
        path.join(1, 2);
        CHECKS.same("9: a path of three modulo 3", path.rank(), 3);
        path.set(0, 2);
        CHECKS.same("9: whatever the states", path.rank(), 3);
    }

    private static void promise10Solvable() {
        Row x = new Row(2, 3);
        x.join(0, 1);
        CHECKS.same("10: as WANTED already", x.solvable(), true);
        x.set(0, 1);
        CHECKS.same("10: one of two", x.solvable(), false);
        x.set(1, 1);
        CHECKS.same("10: both", x.solvable(), true);
        x.want(1, 2);
        CHECKS.same("10: different ways", x.solvable(), false);
        x.want(0, 2);
        CHECKS.same("10: the same way", x.solvable(), true);
        x.set(1, 0);
        x.self(0, false);
        CHECKS.same("10: the graph has changed", x.solvable(), true);
    }

    private static void promise11Answer() {
        Row x = new Row(3, 5);
        x.join(0, 1);
        x.want(0, 4);
        x.want(1, 4);
        x.set(2, 1);
        CHECKS.same("11: the first of two alike is BOUND", x.answers(), "4 0 4");
        x.press(1, 3);
        CHECKS.same("11: after presses", x.answers(), "1 0 4");
        x.set(0, 0);
        CHECKS.same("11: none", x.answers(), "-1 -1 -1");
        x.self(1, false);
        CHECKS.same("11: self changes it", x.answers(), "1 3 4");
        CHECKS.noSuchLamps("11: answer", 3, lamp -> x.answer(lamp));
        x.self(1, true);
        CHECKS.noSuchLamps("11: answer when there is none", 3, lamp -> x.answer(lamp));
    }

    private static void promise12Quiet() {
        Row x = new Row(5, 5);
        CHECKS.same("12: no FREE lamp", x.quiet(0, 0), -1);
        x.join(0, 2);
        x.self(3, false);
        CHECKS.same("12: lamp 2's", x.quiets(0), "4 0 1 0 0");
        CHECKS.same("12: lamp 3's", x.quiets(1), "0 0 0 1 0");
        CHECKS.same("12: no third", x.quiets(2), "-1 -1 -1 -1 -1");
        CHECKS.same("12: -1", x.quiet(-1, 0), -1);
        CHECKS.same("12: lowest", x.quiet(LOW, 0), -1);
        CHECKS.same("12: highest", x.quiet(HIGH, 4), -1);
        x.set(0, 1);
        CHECKS.same("12: also when there is no answer", x.quiets(0), "4 0 1 0 0");
        x.join(3, 4);
        CHECKS.same("12: lamp 3 is BOUND now", x.quiets(1), "-1 -1 -1 -1 -1");
        CHECKS.noSuchLamps("12: quiet", 5, lamp -> x.quiet(0, lamp));
        CHECKS.noSuchLamps("12: no such pattern", 5, lamp -> x.quiet(9, lamp));
        CHECKS.noSuchLamps("12: pattern -1", 5, lamp -> x.quiet(-1, lamp));
    }

    private static void promise13Count() {
        Row x = new Row(30, 7);
        CHECKS.same("13: one", x.digits(), "1");
        for (int lamp = 0; lamp < 30; lamp++) {
            x.self(lamp, false);
        }
        CHECKS.same("13: 7 to the 30th", x.digits(), "22539340290692258087863249");
        CHECKS.same("13: digit -1", x.count(-1), -1);
        CHECKS.same("13: digit lowest", x.count(LOW), -1);
        CHECKS.same("13: digit highest", x.count(HIGH), -1);
        CHECKS.same("13: digit 26", x.count(26), -1);
        x.want(4, 1);
        CHECKS.same("13: no answers", x.digits(), "0");
        x.want(4, 0);
        x.self(0, true);
        CHECKS.same("13: 7 to the 29th", x.digits(), "3219905755813179726837607");
        Row two = new Row(30, 2);
        for (int lamp = 0; lamp < 10; lamp++) {
            two.self(lamp, false);
        }
        CHECKS.same("13: 2 to the 10th, with a 0 inside", two.digits(), "1024");
    }

    private static void promise14Fewest() {
        Row x = new Row(3, 2);
        CHECKS.same("14: nothing to do", x.fewest(), 0);
        x.join(0, 1);
        x.join(1, 2);
        x.join(2, 0);
        CHECKS.same("14: nothing to do, several answers", x.fewest(), 0);
        x.want(0, 1);
        CHECKS.same("14: no answer", x.fewest(), -1);
        x.want(1, 1);
        x.want(2, 1);
        CHECKS.same("14: one press", x.fewest(), 1);
        Row pair = new Row(4, 7);
        pair.self(0, false);
        pair.want(1, 6);
        pair.set(3, 6);
        CHECKS.same("14: presses count together", pair.fewest(), 7);
        pair.press(1, 6);
        CHECKS.same("14: after presses", pair.fewest(), 1);
    }

    private static void promise14Limit() {
        checkLimit(2, 14, 1);
        checkLimit(3, 9, 2);
        checkLimit(5, 6, 4);
        checkLimit(7, 5, 6);
    }

    /** Of lamps without an effect, one more brings the answers above 20,000. */
    private static void checkLimit(int states, int idle, int wanted) {
        Row x = new Row(20, states);
        for (int lamp = 0; lamp < idle; lamp++) {
            x.self(lamp, false);
        }
        x.want(19, wanted);
        CHECKS.same("14: fewest modulo " + states, x.fewest(), wanted);
        CHECKS.same("14: best modulo " + states, x.best(19), wanted);
        CHECKS.same("14: best of an idle lamp modulo " + states, x.best(0), 0);
        x.self(idle, false);
        CHECKS.same("14: too many modulo " + states, x.fewest(), -2);
        CHECKS.same("14: best of too many modulo " + states, x.best(19), -2);
        x.want(0, 1);
        CHECKS.same("14: none goes ahead of too many modulo " + states, x.fewest(), -1);
        CHECKS.same("14: best of none modulo " + states, x.best(19), -1);
        CHECKS.same("14: THE ANSWER of none modulo " + states, x.answer(19), -1);
        x.want(0, 0);
        CHECKS.same("14: THE ANSWER of too many modulo " + states, x.answer(19), wanted);
        CHECKS.same("14: solvable though too many modulo " + states, x.solvable(), true);
    }

    private static void promise15Best() {
        Row x = new Row(4, 3);
        x.join(1, 2);
        x.want(1, 2);
        x.want(2, 2);
        CHECKS.same("15: as late as can be", x.bests(), "0 0 2 0");
        CHECKS.same("15: THE ANSWER is another one", x.answers(), "0 2 0 0");
        x.want(1, 0);
        CHECKS.same("15: no answer", x.bests(), "-1 -1 -1 -1");
        x.want(2, 0);
        CHECKS.same("15: nothing to do", x.bests(), "0 0 0 0");
        Row star = new Row(4, 2);
        star.self(1, false);
        star.self(2, false);
        star.self(3, false);
        star.join(0, 1);
        star.join(0, 2);
        star.join(0, 3);
        star.want(0, 1);
        CHECKS.same("15: star", star.bests(), "0 0 0 1");
        CHECKS.same("15: star's fewest", star.fewest(), 1);
        star.press(3, 1);
        CHECKS.same("15: after its presses", star.bests(), "0 0 0 0");
        CHECKS.noSuchLamps("15: best", 4, lamp -> x.best(lamp));
        x.want(2, 1);
        CHECKS.noSuchLamps("15: best of none", 4, lamp -> x.best(lamp));
    }

    private static void promise15Limit() {
        Row x = new Row(30, 2);
        for (int lamp = 0; lamp < 30; lamp++) {
            x.self(lamp, false);
        }
        CHECKS.same("15: too many", x.best(29), -2);
        CHECKS.noSuchLamps("15: best of too many", 30, lamp -> x.best(lamp));
    }

    private static void promise16Alone() {
        Row x = new Row(4, 3);
        x.join(0, 1);
        x.self(3, false);
        CHECKS.same("16: one of two that move together", x.alone(0), false);
        CHECKS.same("16: the other", x.alone(1), false);
        CHECKS.same("16: by itself", x.alone(2), true);
        CHECKS.same("16: never", x.alone(3), false);
        x.set(2, 2);
        x.want(0, 1);
        CHECKS.same("16: whatever the states", x.alone(2), true);
        x.self(0, false);
        CHECKS.same("16: the graph has changed", x.alone(0), true);
        CHECKS.same("16: and for the other", x.alone(1), true);
        Row path = new Row(3, 2);
        path.self(0, false);
        path.self(1, false);
        path.self(2, false);
        path.join(0, 1);
        path.join(1, 2);
        CHECKS.same("16: the middle of a path", path.alone(1), true);
        CHECKS.same("16: an end of a path", path.alone(0), false);
        CHECKS.noSuchLamps("16: alone", 4, lamp -> x.alone(lamp));
    }

    private static void promise17Clear() {
        Row x = new Row(3, 5);
        x.join(0, 1);
        x.self(2, false);
        x.set(0, 3);
        x.want(1, 1);
        CHECKS.same("17: no answer ahead of it", x.fewest(), -1);
        x.clear();
        CHECKS.same("17: states", x.states(), "0 0 0");
        CHECKS.same("17: apart", x.apart(), 0);
        CHECKS.same("17: fewest", x.fewest(), 0);
        CHECKS.same("17: answer", x.answers(), "0 0 0");
        CHECKS.same("17: joined still", x.join(1, 0), false);
        CHECKS.same("17: not SELF still", x.self(2, false), false);
        CHECKS.same("17: rank", x.rank(), 1);
        x.press(0, 1);
        CHECKS.same("17: press", x.states(), "1 1 0");
        CHECKS.same("17: 0 is WANTED", x.apart(), 2);
    }

    private static void lampIsLookedAtFirst() {
        Row x = new Row(1, 2);
        CHECKS.noSuchLamp("one lamp: at(1)", () -> x.at(1));
        CHECKS.noSuchLamp("one lamp: join(0, 1)", () -> x.join(0, 1));
        CHECKS.noSuchLamp("one lamp: quiet(7, 1)", () -> x.quiet(7, 1));
        CHECKS.same("one lamp: join(0, 0)", x.join(0, 0), false);
    }
}
