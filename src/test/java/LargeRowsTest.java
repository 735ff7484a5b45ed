import java.math.BigInteger;
import java.util.Arrays;

/**
 * Rows of up to 30 lamps, where all patterns can't be tried: what the class names is pressed for
 * real, and what presses can do is held against a basis that is grown here lamp by lamp.
 */
public final class LargeRowsTest {
    private static final Checks CHECKS = new Checks();
    private static final int[] STATES = {2, 3, 5, 7};

    private final String name;
    private final Dice dice;
    private final int lamps;
    private final int states;
    private final int[][] effect;
    private final int[] wanted;
    private final int[][] basis;
    private final boolean[] free;
    private final int[][] quiet;
    private int bound = 0;
    private Row x = null;

    private LargeRowsTest(int run, int lamps, int states) {
        name = "run " + run + " (" + lamps + " lamps, " + states + " states): ";
        dice = new Dice(1000 + run);
        this.lamps = lamps;
        this.states = states;
        effect = new int[lamps][lamps];
        wanted = new int[lamps];
        basis = new int[lamps][];
        free = new boolean[lamps];
        quiet = new int[lamps][lamps];
    }

    public static void main(String[] args) {
        for (int run = 0; run < 400; run++) {
            int lamps = run % 3 == 0 ? 30 : 10 + run % 21;
            LargeRowsTest test = new LargeRowsTest(run, lamps, STATES[run / 5 % 4]);
            test.draw(run % 5);
            test.go();
        }
        CHECKS.end();
    }

    private void draw(int shape) {
        for (int lamp = 0; lamp < lamps; lamp++) {
            effect[lamp][lamp] = 1;
        }
        for (int a = 0; a < lamps; a++) {
            for (int b = 0; b < a; b++) {
                if (isJoined(shape, a, b)) {
                    effect[a][b] = 1;
                    effect[b][a] = 1;
                }
            }
        }
        for (int lamp = 0; lamp < lamps; lamp++) {
            if (dice.oneIn(shape == 3 ? 1 : 4)) {
                effect[lamp][lamp] = 0;
            }
        }
    }

    /** A new object for each question, so that none is used for too many calls. */
    private void makeRow() {
        x = new Row(lamps, states);
        for (int a = 0; a < lamps; a++) {
            for (int b = 0; b < a; b++) {
                if (effect[a][b] == 1) {
                    x.join(a, b);
                }
            }
            if (effect[a][a] == 0) {
                x.self(a, false);
            }
        }
    }

    /** Thin, thick, a grid, a tree with twins, groups that all touch one another. */
    private boolean isJoined(int shape, int a, int b) {
        switch (shape) {
            case 0:
                return dice.oneIn(lamps);
            case 1:
                return dice.oneIn(2);
            case 2:
                return a - b == 5 || a - b == 1 && a % 5 != 0;
            case 3:
                return b == a / 3;
            default:
                return a / 4 == b / 4;
        }
    }

    private void go() {
        growBasis();
        makeRow();
        CHECKS.same(name + "rank", x.rank(), bound);
        checkAlone();
        checkQuiet();
        for (int round = 0; round < 4; round++) {
            makeRow();
            wish(round % 2 == 0);
            checkAnswers();
        }
    }

    private void growBasis() {
        for (int lamp = 0; lamp < lamps; lamp++) {
            int[] left = remainder(effect[lamp]);
            int lead = lastOf(left);
            free[lamp] = lead < 0;
            if (lead >= 0) {
                basis[lead] = left;
                bound++;
            }
        }
    }

    private int lastOf(int[] row) {
        for (int i = lamps - 1; i >= 0; i--) {
            if (row[i] != 0) {
                return i;
            }
        }
        return -1;
    }

    private int[] remainder(int[] row) {
        int[] left = row.clone();
        for (int i = lamps - 1; i >= 0; i--) {
            while (basis[i] != null && left[i] != 0) {
                for (int j = 0; j < lamps; j++) {
                    left[j] = (left[j] + basis[i][j]) % states;
                }
            }
        }
        return left;
    }

    private boolean canBeDone(int[] row) {
        return lastOf(remainder(row)) < 0;
    }

    private void checkAlone() {
        for (int lamp = 0; lamp < lamps; lamp++) {
            int[] one = new int[lamps];
            one[lamp] = 1;
            CHECKS.same(name + "alone " + lamp, x.alone(lamp), canBeDone(one));
        }
    }

    private void checkQuiet() {
        int k = 0;
        for (int lamp = 0; lamp < lamps; lamp++) {
            if (free[lamp]) {
                makeRow();
                checkQuietPattern(k, lamp);
                k++;
            }
        }
        CHECKS.same(name + "quiet behind the last", x.quiet(k, lamps - 1), -1);
    }

    private void checkQuietPattern(int k, int freeLamp) {
        for (int lamp = 0; lamp < lamps; lamp++) {
            int presses = x.quiet(k, lamp);
            quiet[k][lamp] = presses;
            if (free[lamp]) {
                CHECKS.same(name + "quiet " + k + " " + lamp, presses, lamp == freeLamp ? 1 : 0);
            }
            CHECKS.same(name + "press " + lamp, x.press(lamp, presses), true);
        }
        CHECKS.same(name + "apart after quiet " + k, x.apart(), 0);
    }

    private void wish(boolean kind) {
        Arrays.fill(wanted, 0);
        for (int lamp = 0; lamp < lamps; lamp++) {
            int presses = kind ? dice.below(states) : 0;
            for (int other = 0; other < lamps; other++) {
                wanted[other] = (wanted[other] + presses * effect[lamp][other]) % states;
            }
        }
        if (!kind) {
            wanted[dice.below(lamps)] = 1 + dice.below(states - 1);
        }
        for (int lamp = 0; lamp < lamps; lamp++) {
            x.want(lamp, wanted[lamp]);
        }
    }

    private void checkAnswers() {
        boolean due = canBeDone(wanted);
        BigInteger answers = due ? BigInteger.valueOf(states).pow(lamps - bound) : BigInteger.ZERO;
        boolean tooMany = answers.compareTo(BigInteger.valueOf(20000)) > 0;
        CHECKS.same(name + "solvable", x.solvable(), due);
        checkDigits(answers.toString());
        if (!due || tooMany) {
            CHECKS.same(name + "fewest", x.fewest(), due ? -2 : -1);
            CHECKS.same(name + "best", x.best(lamps - 1), due ? -2 : -1);
        } else {
            checkBest();
        }
        checkAnswer(due);
    }

    private void checkAnswer(boolean due) {
        int[] answer = new int[lamps];
        for (int lamp = 0; lamp < lamps; lamp++) {
            answer[lamp] = x.answer(lamp);
            if (!due || free[lamp]) {
                CHECKS.same(name + "answer " + lamp, answer[lamp], due ? 0 : -1);
            }
        }
        for (int lamp = 0; due && lamp < lamps; lamp++) {
            x.press(lamp, answer[lamp]);
        }
        CHECKS.same(name + "as WANTED after THE ANSWER", x.apart() == 0, due);
    }

    private void checkBest() {
        int[] start = new int[lamps];
        for (int lamp = 0; lamp < lamps; lamp++) {
            start[lamp] = x.answer(lamp);
        }
        int[] due = bestFrom(start, 0);
        CHECKS.same(name + "fewest", x.fewest(), Model.total(due));
        for (int lamp = 0; lamp < lamps; lamp++) {
            CHECKS.same(name + "best " + lamp, x.best(lamp), due[lamp]);
        }
    }

    private int[] bestFrom(int[] pattern, int k) {
        if (k == lamps - bound) {
            return pattern;
        }
        int[] best = null;
        for (int times = 0; times < states; times++) {
            int[] next = new int[lamps];
            for (int lamp = 0; lamp < lamps; lamp++) {
                next[lamp] = (pattern[lamp] + times * quiet[k][lamp]) % states;
            }
            int[] found = bestFrom(next, k + 1);
            if (best == null || Model.total(found) < Model.total(best)
                    || Model.total(found) == Model.total(best) && Arrays.compare(found, best) < 0) {
                best = found;
            }
        }
        return best;
    }

    private void checkDigits(String digits) {
        for (int i = -1; i < digits.length() + 3; i++) {
            boolean there = i >= 0 && i < digits.length();
            int due = there ? digits.charAt(digits.length() - 1 - i) - '0' : -1;
            CHECKS.same(name + "count " + i, x.count(i), due);
        }
    }
}
