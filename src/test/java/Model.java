import java.util.ArrayList;
import java.util.Arrays;
import java.util.List;
import java.util.Set;
import java.util.TreeSet;

/**
 * The document's terms, taken word by word: every pattern of presses is tried. It is fit for few
 * lamps alone, and shares no way of working with the class.
 */
final class Model {
    final int lamps;
    final int states;
    final boolean[][] joined;
    final boolean[] self;
    final int[] now;
    final int[] wanted;
    private final List<int[]> patterns = new ArrayList<>();

    Model(int lamps, int states) {
        this.lamps = lamps;
        this.states = states;
        joined = new boolean[lamps][lamps];
        self = new boolean[lamps];
        now = new int[lamps];
        wanted = new int[lamps];
        Arrays.fill(self, true);
        addPatterns(new int[lamps], 0);
    }

    /** From the least on, by the first lamp that differs. */
    private void addPatterns(int[] pattern, int lamp) {
        if (lamp == lamps) {
            patterns.add(pattern.clone());
            return;
        }
        for (int presses = 0; presses < states; presses++) {
            pattern[lamp] = presses;
            addPatterns(pattern, lamp + 1);
        }
    }

    void press(int lamp, int n) {
        for (int time = 0; time < n; time++) {
            for (int other = 0; other < lamps; other++) {
                if (moves(lamp, other)) {
                    now[other] = now[other] == states - 1 ? 0 : now[other] + 1;
                }
            }
        }
    }

    private boolean moves(int pressed, int lamp) {
        return pressed == lamp ? self[lamp] : joined[pressed][lamp];
    }

    private int[] effect(int[] pattern) {
        int[] moved = new int[lamps];
        for (int pressed = 0; pressed < lamps; pressed++) {
            for (int lamp = 0; lamp < lamps; lamp++) {
                if (moves(pressed, lamp)) {
                    moved[lamp] = (moved[lamp] + pattern[pressed]) % states;
                }
            }
        }
        return moved;
    }

    private List<int[]> patternsWith(int[] effect) {
        List<int[]> found = new ArrayList<>();
        for (int[] pattern : patterns) {
            if (Arrays.equals(effect(pattern), effect)) {
                found.add(pattern);
            }
        }
        return found;
    }

    List<int[]> answers() {
        int[] lacking = new int[lamps];
        for (int lamp = 0; lamp < lamps; lamp++) {
            lacking[lamp] = Math.floorMod(wanted[lamp] - now[lamp], states);
        }
        return patternsWith(lacking);
    }

    List<Integer> freeLamps() {
        List<Integer> free = new ArrayList<>();
        Set<String> sums = new TreeSet<>();
        boolean[] bound = new boolean[lamps];
        addSums(sums, bound);
        for (int lamp = 0; lamp < lamps; lamp++) {
            int[] once = new int[lamps];
            once[lamp] = 1;
            if (sums.contains(Arrays.toString(effect(once)))) {
                free.add(lamp);
            } else {
                bound[lamp] = true;
                addSums(sums, bound);
            }
        }
        return free;
    }

    private void addSums(Set<String> sums, boolean[] bound) {
        for (int[] pattern : patterns) {
            boolean boundAlone = true;
            for (int lamp = 0; lamp < lamps; lamp++) {
                boundAlone &= bound[lamp] || pattern[lamp] == 0;
            }
            if (boundAlone) {
                sums.add(Arrays.toString(effect(pattern)));
            }
        }
    }

    /** THE ANSWER, or null. */
    int[] theAnswer(List<int[]> answers, List<Integer> free) {
        return onlyOne(answers, free, -1);
    }

    int[] quietPattern(List<Integer> free, int k) {
        return onlyOne(patternsWith(new int[lamps]), free, k);
    }

    /** That one by which the k-th FREE lamp is pressed once and all others 0 times. */
    private int[] onlyOne(List<int[]> among, List<Integer> free, int k) {
        int[] one = null;
        for (int[] pattern : among) {
            boolean fits = true;
            for (int i = 0; i < free.size(); i++) {
                fits &= pattern[free.get(i)] == (i == k ? 1 : 0);
            }
            if (fits && one != null) {
                throw new IllegalStateException("the document's terms name two patterns");
            }
            one = fits ? pattern : one;
        }
        return one;
    }

    static int total(int[] pattern) {
        int presses = 0;
        for (int part : pattern) {
            presses += part;
        }
        return presses;
    }

    /** The answers come from the least on, so the first one with so few presses is due; or null. */
    int[] best(List<int[]> answers) {
        int[] best = null;
        for (int[] pattern : answers) {
            if (best == null || total(pattern) < total(best)) {
                best = pattern;
            }
        }
        return best;
    }

    boolean alone(int lamp) {
        int[] one = new int[lamps];
        one[lamp] = 1;
        return !patternsWith(one).isEmpty();
    }
}
