import java.util.Arrays;
import java.util.List;

/** Long runs of calls on few lamps, each answer compared with the model's. */
public final class SmallRowsTest {
    private static final Checks CHECKS = new Checks();
    private static final int[] STATES = {2, 3, 5, 7};
    private static final int[] MOST_LAMPS = {8, 5, 4, 3};
    private static final int MOST_CALLS_OF_A_STEP = 120;

    private final String name;
    private final Dice dice;
    private final Model model;
    private final Row x;

    private SmallRowsTest(int run, int states, int lamps) {
        name = "run " + run + " (" + lamps + " lamps, " + states + " states): ";
        dice = new Dice(run);
        model = new Model(lamps, states);
        x = new Row(lamps, states);
    }

    public static void main(String[] args) {
        for (int run = 0; run < 640; run++) {
            int kind = run % 4;
            int lamps = 1 + run / 4 % MOST_LAMPS[kind];
            new SmallRowsTest(run, STATES[kind], lamps).go();
        }
        CHECKS.end();
    }

    private void go() {
        compare();
        for (int step = 0; x.callsLeft() >= MOST_CALLS_OF_A_STEP; step++) {
            change();
            if (step % 3 == 2) {
                compare();
            } else {
                compareOne();
            }
        }
    }

    private void change() {
        int lamp = dice.below(model.lamps);
        switch (dice.below(8)) {
            case 0:
            case 1:
                join(lamp, dice.below(model.lamps));
                break;
            case 2:
                self(lamp, dice.oneIn(3));
                break;
            case 3:
                set(lamp, dice.below(model.states + 2) - 1);
                break;
            case 4:
                want(lamp, dice.below(model.states + 2) - 1);
                break;
            case 5:
            case 6:
                press(lamp, dice.oneIn(4) ? dice.below(1100) - 50 : dice.below(9));
                break;
            default:
                clearNowAndThen();
        }
    }

    private void join(int a, int b) {
        boolean due = a != b && !model.joined[a][b];
        CHECKS.same(name + "join " + a + " " + b, x.join(a, b), due);
        if (due) {
            model.joined[a][b] = true;
            model.joined[b][a] = true;
        }
    }

    private void self(int lamp, boolean on) {
        CHECKS.same(name + "self " + lamp + " " + on, x.self(lamp, on), model.self[lamp] != on);
        model.self[lamp] = on;
    }

    private void set(int lamp, int v) {
        boolean due = v >= 0 && v < model.states;
        CHECKS.same(name + "set " + lamp + " " + v, x.set(lamp, v), due);
        model.now[lamp] = due ? v : model.now[lamp];
    }

    private void want(int lamp, int v) {
        boolean due = v >= 0 && v < model.states;
        CHECKS.same(name + "want " + lamp + " " + v, x.want(lamp, v), due);
        model.wanted[lamp] = due ? v : model.wanted[lamp];
    }

    private void press(int lamp, int n) {
        boolean due = n >= 0 && n <= 1000;
        CHECKS.same(name + "press " + lamp + " " + n, x.press(lamp, n), due);
        model.press(lamp, due ? n : 0);
    }

    private void clearNowAndThen() {
        if (dice.oneIn(3)) {
            x.clear();
            Arrays.fill(model.now, 0);
            Arrays.fill(model.wanted, 0);
        }
    }

    /** One call only, so that what the class keeps from call to call is asked for in every order. */
    private void compareOne() {
        List<int[]> answers = model.answers();
        int[] best = model.best(answers);
        int lamp = dice.below(model.lamps);
        switch (dice.below(4)) {
            case 0:
                CHECKS.same(name + "solvable", x.solvable(), !answers.isEmpty());
                break;
            case 1:
                CHECKS.same(name + "fewest", x.fewest(), best == null ? -1 : Model.total(best));
                break;
            case 2:
                CHECKS.same(name + "best " + lamp, x.best(lamp), best == null ? -1 : best[lamp]);
                break;
            default:
                CHECKS.same(name + "count 0", x.count(0), answers.size() % 10);
        }
    }

    private void compare() {
        List<int[]> answers = model.answers();
        List<Integer> free = model.freeLamps();
        int[] best = model.best(answers);
        int[] theAnswer = model.theAnswer(answers, free);
        CHECKS.same(name + "rank", x.rank(), model.lamps - free.size());
        CHECKS.same(name + "solvable", x.solvable(), !answers.isEmpty());
        CHECKS.same(name + "fewest", x.fewest(), best == null ? -1 : Model.total(best));
        CHECKS.same(name + "an answer and THE ANSWER", theAnswer == null, answers.isEmpty());
        int apart = 0;
        for (int lamp = 0; lamp < model.lamps; lamp++) {
            CHECKS.same(name + "at " + lamp, x.at(lamp), model.now[lamp]);
            CHECKS.same(name + "answer " + lamp, x.answer(lamp), theAnswer == null ? -1 : theAnswer[lamp]);
            CHECKS.same(name + "best " + lamp, x.best(lamp), best == null ? -1 : best[lamp]);
            CHECKS.same(name + "alone " + lamp, x.alone(lamp), model.alone(lamp));
            apart += model.now[lamp] == model.wanted[lamp] ? 0 : 1;
        }
        CHECKS.same(name + "apart", x.apart(), apart);
        compareQuiet(free);
        compareCount(answers.size());
    }

    private void compareQuiet(List<Integer> free) {
        for (int k = 0; k < free.size(); k++) {
            int[] quiet = model.quietPattern(free, k);
            for (int lamp = 0; lamp < model.lamps; lamp++) {
                CHECKS.same(name + "quiet " + k + " " + lamp, x.quiet(k, lamp), quiet[lamp]);
            }
        }
        CHECKS.same(name + "quiet behind the last", x.quiet(free.size(), 0), -1);
    }

    private void compareCount(int answers) {
        String digits = Integer.toString(answers);
        for (int i = 0; i < digits.length() + 2; i++) {
            int due = i < digits.length() ? digits.charAt(digits.length() - 1 - i) - '0' : -1;
            CHECKS.same(name + "count " + i, x.count(i), due);
        }
    }
}
