/**
 * Lamps on a graph with several states: which presses bring them to what is wanted, worked out over
 * residues; all answers, the fewest presses, quiet patterns, which lamps can be changed alone, exact
 * counts.
 */
public final class LightRows {
    private static final int MOST_LAMPS = 30;
    private static final int MOST_PRESSES = 1000;
    private static final int MOST_ANSWERS = 20000;
    private static final int NONE = -1;
    private static final int TOO_MANY = -2;

    private final int lamps;
    private final int states;
    private final int[] now;
    private final int[] wanted;
    // Bit i of touched[j] tells whether a press of j moves i on: 30 lamps fit into one int.
    private final int[] touched;
    private final Equations equations;
    private final Search search;
    private final Decimal decimal;
    // Many calls follow one change, so what has been worked out is kept until the next change.
    private boolean worked;
    private boolean searched;

    public LightRows(int lamps, int states) {
        this.lamps = Math.max(1, Math.min(MOST_LAMPS, lamps));
        this.states = primeFor(states);
        now = new int[this.lamps];
        wanted = new int[this.lamps];
        touched = new int[this.lamps];
        for (int lamp = 0; lamp < this.lamps; lamp++) {
            touched[lamp] = 1 << lamp;
        }
        equations = new Equations(this.lamps, this.states);
        search = new Search(this.lamps, this.states);
        decimal = new Decimal();
        worked = false;
        searched = false;
    }

    public boolean join(int a, int b) throws ArrayIndexOutOfBoundsException {
        mustExist(a);
        mustExist(b);
        if (a == b || touches(a, b)) {
            return false;
        }
        touched[a] |= 1 << b;
        touched[b] |= 1 << a;
        forget();
        return true;
    }

    public boolean self(int lamp, boolean on) throws ArrayIndexOutOfBoundsException {
        mustExist(lamp);
        if (touches(lamp, lamp) == on) {
            return false;
        }
        touched[lamp] ^= 1 << lamp;
        forget();
        return true;
    }

    public boolean set(int lamp, int v) throws ArrayIndexOutOfBoundsException {
        mustExist(lamp);
        if (!isState(v)) {
            return false;
        }
        now[lamp] = v;
        forget();
        return true;
    }

    public boolean want(int lamp, int v) throws ArrayIndexOutOfBoundsException {
        mustExist(lamp);
        if (!isState(v)) {
            return false;
        }
        wanted[lamp] = v;
        forget();
        return true;
    }

    public boolean press(int lamp, int n) throws ArrayIndexOutOfBoundsException {
        mustExist(lamp);
        if (n < 0 || n > MOST_PRESSES) {
            return false;
        }
        for (int other = 0; other < lamps; other++) {
            if (touches(lamp, other)) {
                now[other] = (now[other] + n) % states;
            }
        }
        forget();
        return true;
    }

    public int at(int lamp) throws ArrayIndexOutOfBoundsException {
        mustExist(lamp);
        return now[lamp];
    }

    public int apart() {
        int differing = 0;
        for (int lamp = 0; lamp < lamps; lamp++) {
            if (now[lamp] != wanted[lamp]) {
                differing++;
            }
        }
        return differing;
    }

    public int rank() {
        work();
        return equations.boundLamps();
    }

    public boolean solvable() {
        work();
        return equations.agree();
    }

    public int answer(int lamp) throws ArrayIndexOutOfBoundsException {
        mustExist(lamp);
        work();
        return equations.agree() ? equations.pressesOf(lamp) : NONE;
    }

    public int quiet(int k, int lamp) throws ArrayIndexOutOfBoundsException {
        mustExist(lamp);
        work();
        if (k < 0 || k >= equations.freeLamps()) {
            return NONE;
        }
        return equations.quietPattern(k)[lamp];
    }

    public int count(int i) {
        work();
        decimal.become(equations.agree() ? 1 : 0);
        for (int k = 0; k < equations.freeLamps(); k++) {
            decimal.multiply(states);
        }
        return decimal.digit(i);
    }

    public int fewest() {
        seek();
        return search.leastTotal();
    }

    public int best(int lamp) throws ArrayIndexOutOfBoundsException {
        mustExist(lamp);
        seek();
        return search.leastTotal() < 0 ? search.leastTotal() : search.leastPresses(lamp);
    }

    /**
     * What presses can do at all is what stands square to every QUIET pattern, because JOINED goes
     * both ways; so a lamp can be changed alone just when no QUIET pattern presses it.
     */
    public boolean alone(int lamp) throws ArrayIndexOutOfBoundsException {
        mustExist(lamp);
        work();
        for (int k = 0; k < equations.freeLamps(); k++) {
            if (equations.quietPattern(k)[lamp] != 0) {
                return false;
            }
        }
        return true;
    }

    public void clear() {
        for (int lamp = 0; lamp < lamps; lamp++) {
            now[lamp] = 0;
            wanted[lamp] = 0;
        }
        forget();
    }

    /** Never below 2, so that it may divide wherever it stands. */
    private static int primeFor(int states) {
        if (states < 3) {
            return 2;
        }
        if (states < 5) {
            return 3;
        }
        return states < 7 ? 5 : 7;
    }

    private void mustExist(int lamp) {
        if (lamp < 0 || lamp >= lamps) {
            throw new ArrayIndexOutOfBoundsException("there is no such lamp");
        }
    }

    private boolean isState(int v) {
        return v >= 0 && v < states;
    }

    private boolean touches(int pressed, int lamp) {
        return (touched[pressed] >> lamp & 1) == 1;
    }

    private void forget() {
        worked = false;
        searched = false;
    }

    private void work() {
        if (!worked) {
            equations.take(touched, now, wanted);
            equations.reduce();
            worked = true;
        }
    }

    private void seek() {
        work();
        if (!searched) {
            search.run(equations);
            searched = true;
        }
    }

    /**
     * One row for each lamp: what the presses (a column for each) do to it, and, last, what it
     * lacks. Reduced, the columns with a row of their own are those of the BOUND lamps.
     */
    private static final class Equations {
        private final int size;
        private final int modulus;
        private final int[][] rows;
        private final int[] rowOf;
        private final int[][] quietPatterns;
        private int bound;
        private int free;

        Equations(int size, int modulus) {
            this.size = size;
            this.modulus = modulus;
            rows = new int[size][size + 1];
            rowOf = new int[size];
            quietPatterns = new int[size][size];
            bound = 0;
            free = 0;
        }

        void take(int[] touched, int[] now, int[] wanted) {
            for (int lamp = 0; lamp < size; lamp++) {
                int[] row = rows[lamp];
                for (int pressed = 0; pressed < size; pressed++) {
                    row[pressed] = touched[pressed] >> lamp & 1;
                }
                row[size] = (wanted[lamp] - now[lamp] + modulus) % modulus;
            }
        }

        void reduce() {
            bound = 0;
            for (int lamp = 0; lamp < size; lamp++) {
                int found = unusedRowWith(lamp);
                rowOf[lamp] = found == NONE ? NONE : bound;
                if (found != NONE) {
                    swap(found, bound);
                    makeUnit(rows[bound], lamp);
                    clearElsewhere(bound, lamp);
                    bound++;
                }
            }
            readQuietPatterns();
        }

        int boundLamps() {
            return bound;
        }

        int freeLamps() {
            return free;
        }

        boolean agree() {
            for (int row = bound; row < size; row++) {
                if (rows[row][size] != 0) {
                    return false;
                }
            }
            return true;
        }

        int pressesOf(int lamp) {
            int row = rowOf[lamp];
            return row == NONE ? 0 : rows[row][size];
        }

        int[] quietPattern(int k) {
            return quietPatterns[k];
        }

        /** The number of answers; where it is above the limit, just something above it. */
        int answersUpTo(int limit) {
            if (!agree()) {
                return 0;
            }
            int answers = 1;
            for (int k = 0; k < free && answers <= limit; k++) {
                answers *= modulus;
            }
            return answers;
        }

        private int unusedRowWith(int lamp) {
            for (int row = bound; row < size; row++) {
                if (rows[row][lamp] != 0) {
                    return row;
                }
            }
            return NONE;
        }

        private void swap(int one, int other) {
            int[] kept = rows[one];
            rows[one] = rows[other];
            rows[other] = kept;
        }

        private void makeUnit(int[] row, int lamp) {
            int factor = inverse(row[lamp]);
            for (int column = 0; column <= size; column++) {
                row[column] = row[column] * factor % modulus;
            }
        }

        private int inverse(int residue) {
            for (int factor = 2; factor < modulus; factor++) {
                if (residue * factor % modulus == 1) {
                    return factor;
                }
            }
            return 1;
        }

        private void clearElsewhere(int unit, int lamp) {
            for (int row = 0; row < size; row++) {
                if (row != unit && rows[row][lamp] != 0) {
                    addMultiple(rows[row], rows[unit], modulus - rows[row][lamp]);
                }
            }
        }

        private void addMultiple(int[] row, int[] added, int factor) {
            for (int column = 0; column <= size; column++) {
                row[column] = (row[column] + added[column] * factor) % modulus;
            }
        }

        private void readQuietPatterns() {
            free = 0;
            for (int lamp = 0; lamp < size; lamp++) {
                if (rowOf[lamp] == NONE) {
                    readQuietPattern(quietPatterns[free], lamp);
                    free++;
                }
            }
        }

        private void readQuietPattern(int[] pattern, int freeLamp) {
            for (int lamp = 0; lamp < size; lamp++) {
                int row = rowOf[lamp];
                pattern[lamp] = row == NONE ? 0 : (modulus - rows[row][freeLamp]) % modulus;
            }
            pattern[freeLamp] = 1;
        }
    }

    /** Goes through all answers, where they are few enough, and keeps the one that is due. */
    private static final class Search {
        private final int size;
        private final int modulus;
        private final int[] tried;
        private final int[] least;
        // How often each QUIET pattern is in what is tried now, as the digits of a number.
        private final int[] turns;
        private int total;

        Search(int size, int modulus) {
            this.size = size;
            this.modulus = modulus;
            tried = new int[size];
            least = new int[size];
            turns = new int[size];
            total = NONE;
        }

        int leastTotal() {
            return total;
        }

        int leastPresses(int lamp) {
            return least[lamp];
        }

        void run(Equations equations) {
            int answers = equations.answersUpTo(MOST_ANSWERS);
            if (answers == 0) {
                total = NONE;
            } else if (answers > MOST_ANSWERS) {
                total = TOO_MANY;
            } else {
                begin(equations);
                for (int step = 1; step < answers; step++) {
                    advance(equations);
                    keepIfLess();
                }
            }
        }

        private void begin(Equations equations) {
            for (int lamp = 0; lamp < size; lamp++) {
                tried[lamp] = equations.pressesOf(lamp);
                turns[lamp] = 0;
            }
            keep(totalTried());
        }

        // A QUIET pattern added as often as there are states is gone again: nothing is to be undone.
        private void advance(Equations equations) {
            for (int k = 0; k < equations.freeLamps(); k++) {
                addToTried(equations.quietPattern(k));
                turns[k]++;
                if (turns[k] < modulus) {
                    return;
                }
                turns[k] = 0;
            }
        }

        private void addToTried(int[] pattern) {
            for (int lamp = 0; lamp < size; lamp++) {
                int presses = tried[lamp] + pattern[lamp];
                tried[lamp] = presses < modulus ? presses : presses - modulus;
            }
        }

        private void keepIfLess() {
            int presses = totalTried();
            if (presses < total || presses == total && triedIsAhead()) {
                keep(presses);
            }
        }

        private int totalTried() {
            int presses = 0;
            for (int lamp = 0; lamp < size; lamp++) {
                presses += tried[lamp];
            }
            return presses;
        }

        private boolean triedIsAhead() {
            for (int lamp = 0; lamp < size; lamp++) {
                if (tried[lamp] != least[lamp]) {
                    return tried[lamp] < least[lamp];
                }
            }
            return false;
        }

        private void keep(int presses) {
            total = presses;
            System.arraycopy(tried, 0, least, 0, size);
        }
    }

    /** The number of answers outgrows a long: 7 to the 30th, the most there can be, has 26 digits. */
    private static final class Decimal {
        private static final int MOST_DIGITS = 26;

        private final int[] digits;
        private int length;

        Decimal() {
            digits = new int[MOST_DIGITS];
            length = 1;
        }

        void become(int digit) {
            digits[0] = digit;
            length = 1;
        }

        /** By at most 10, so that one more digit is enough. */
        void multiply(int factor) {
            int carried = 0;
            for (int i = 0; i < length; i++) {
                int value = digits[i] * factor + carried;
                digits[i] = value % 10;
                carried = value / 10;
            }
            if (carried > 0 && length < MOST_DIGITS) {
                digits[length] = carried;
                length++;
            }
        }

        int digit(int i) {
            return i < 0 || i >= length ? NONE : digits[i];
        }
    }
}
