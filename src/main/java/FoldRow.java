/**
 * Numbers go through a row of 256 rules; what any part of the row does to any number is told at once.
 */
public final class FoldRow {
    private static final int RULES = 256;

    private static final int NOTHING = 0;
    private static final int ADD = 1;
    private static final int PUT = 2;
    private static final int GREATER = 3;
    private static final int LESSER = 4;

    private static final long MOST_VALUE = 1000000000L;
    private static final long MOST_NUMBER = 1000000000000L;
    private static final int MOST_TIMES = 1000;

    private static final int SAME_OF_ALL = 0;
    private static final int BUSY_RULES = 1;
    private static final int EACH_ITSELF = 2;

    private final int[] kinds;
    private final long[] values;

    public FoldRow() {
        kinds = new int[RULES];
        values = new long[RULES];
    }

    public void set(int k, int kind, long v) throws IllegalArgumentException, IndexOutOfBoundsException {
        checkRule(kind, v);
        checkPlace(k);
        kinds[k] = kind;
        values[k] = v;
    }

    public void fill(int from, int to, int kind, long v)
            throws IllegalArgumentException, IndexOutOfBoundsException {
        checkRule(kind, v);
        checkPart(from, to);
        for (int k = from; k < to; k++) {
            kinds[k] = kind;
            values[k] = v;
        }
    }

    public void swap(int j, int k) throws IndexOutOfBoundsException {
        checkPlace(j);
        checkPlace(k);
        int kind = kinds[j];
        long value = values[j];
        kinds[j] = kinds[k];
        values[j] = values[k];
        kinds[k] = kind;
        values[k] = value;
    }

    public long fold(int from, int to, long x) throws IllegalArgumentException, IndexOutOfBoundsException {
        checkNumber(x);
        checkPart(from, to);
        return effectOf(from, to).on(x);
    }

    public long again(int from, int to, long x, int n)
            throws IllegalArgumentException, IndexOutOfBoundsException {
        checkNumber(x);
        checkTimes(n);
        checkPart(from, to);
        Effect effect = effectOf(from, to);
        long number = x;
        for (int time = 0; time < n; time++) {
            number = effect.on(number);
        }
        return number;
    }

    public long least(int from, int to) throws IndexOutOfBoundsException, UnsupportedOperationException {
        checkPart(from, to);
        Effect effect = effectOf(from, to);
        if (!effect.hasLow) {
            throw new UnsupportedOperationException("there are ever lesser numbers");
        }
        return effect.low;
    }

    public long greatest(int from, int to) throws IndexOutOfBoundsException, UnsupportedOperationException {
        checkPart(from, to);
        Effect effect = effectOf(from, to);
        if (!effect.hasHigh) {
            throw new UnsupportedOperationException("there are ever greater numbers");
        }
        return effect.high;
    }

    public long fixed(int from, int to, boolean high)
            throws IndexOutOfBoundsException, UnsupportedOperationException {
        checkPart(from, to);
        Effect effect = effectOf(from, to);
        boolean atHigh = effect.staysAtHigh(high);
        if (atHigh ? !effect.hasHigh : !effect.hasLow) {
            throw new UnsupportedOperationException("no number stays, or there is no last one");
        }
        return atHigh ? effect.high : effect.low;
    }

    public int about(int from, int to, int what) throws IllegalArgumentException, IndexOutOfBoundsException {
        checkQuestion(what);
        checkPart(from, to);
        if (what == BUSY_RULES) {
            return countBusy(from, to);
        }
        Effect effect = effectOf(from, to);
        boolean holds = what == SAME_OF_ALL ? effect.isSameOfAll() : effect.leavesEachItself();
        return holds ? 1 : 0;
    }

    private int countBusy(int from, int to) {
        int busy = 0;
        for (int k = from; k < to; k++) {
            if (kinds[k] != NOTHING) {
                busy++;
            }
        }
        return busy;
    }

    private Effect effectOf(int from, int to) {
        Effect effect = new Effect();
        for (int k = from; k < to; k++) {
            effect.then(kinds[k], values[k]);
        }
        return effect;
    }

    private static void checkRule(int kind, long v) {
        if (kind < NOTHING || kind > LESSER) {
            throw new IllegalArgumentException("no such kind");
        }
        if (v < -MOST_VALUE || v > MOST_VALUE) {
            throw new IllegalArgumentException("v is out of range");
        }
    }

    private static void checkNumber(long x) {
        if (x < -MOST_NUMBER || x > MOST_NUMBER) {
            throw new IllegalArgumentException("x is out of range");
        }
    }

    private static void checkTimes(int n) {
        if (n < 0 || n > MOST_TIMES) {
            throw new IllegalArgumentException("n is out of range");
        }
    }

    private static void checkQuestion(int what) {
        if (what < SAME_OF_ALL || what > EACH_ITSELF) {
            throw new IllegalArgumentException("no such question");
        }
    }

    private static void checkPlace(int k) {
        if (k < 0 || k >= RULES) {
            throw new IndexOutOfBoundsException("no such rule");
        }
    }

    private static void checkPart(int from, int to) {
        if (from < 0 || to < from || to > RULES) {
            throw new IndexOutOfBoundsException("no such part");
        }
    }

    /**
     * What a part does. However many rules it has, they come to one shift and then one low and one
     * high bound, because each kind of rule keeps that form; low is never above high.
     */
    private static final class Effect {
        private long shift = 0L;
        // A flag, not a far-off number, tells a missing bound: a far-off one would move with each shift.
        private boolean hasLow = false;
        private long low = 0L;
        private boolean hasHigh = false;
        private long high = 0L;

        void then(int kind, long v) {
            switch (kind) {
                case ADD:
                    thenAdd(v);
                    break;
                case PUT:
                    thenGreater(v);
                    thenLesser(v);
                    break;
                case GREATER:
                    thenGreater(v);
                    break;
                case LESSER:
                    thenLesser(v);
                    break;
                default:
                    break;
            }
        }

        // A bound that is missing is moved too: its number is not looked at until it is there.
        private void thenAdd(long v) {
            shift += v;
            low += v;
            high += v;
        }

        private void thenGreater(long v) {
            low = hasLow ? Math.max(low, v) : v;
            hasLow = true;
            // A high bound below v would undo this rule.
            high = Math.max(high, v);
        }

        private void thenLesser(long v) {
            high = hasHigh ? Math.min(high, v) : v;
            hasHigh = true;
            low = Math.min(low, v);
        }

        long on(long x) {
            long number = x + shift;
            if (hasLow && number < low) {
                number = low;
            }
            if (hasHigh && number > high) {
                number = high;
            }
            return number;
        }

        /**
         * A shift drives every number to the bound on its own side, and only there can one stay;
         * without a shift all numbers between the bounds stay, and the caller chooses the end.
         */
        boolean staysAtHigh(boolean wanted) {
            return shift == 0L ? wanted : shift > 0L;
        }

        boolean isSameOfAll() {
            return hasLow && hasHigh && low == high;
        }

        boolean leavesEachItself() {
            return shift == 0L && !hasLow && !hasHigh;
        }
    }
}
