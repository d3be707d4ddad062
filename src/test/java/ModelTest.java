/**
 * Long runs of calls against a slow model that knows nothing of bounds: it takes numbers through the
 * rules one by one, and searches, since what a part makes of x never falls and rises by 1 at most.
 */
public final class ModelTest {
    private static final int RUNS = 600;
    private static final int CALLS = 512;
    private static final long FAR = 1000000000000000L;
    private static final String NONE = "throws.UnsupportedOperationException";

    private static final Check check = new Check();

    private final int[] kinds = new int[256];
    private final long[] values = new long[256];
    private final FoldRow row = new FoldRow();
    private final int run;
    private final int width;
    private long seed;

    private ModelTest(int run) {
        this.run = run;
        // Short rows let bounds and shifts meet; the whole row is reached too.
        this.width = run % 3 == 0 ? 256 : 3 + run % 12;
        this.seed = 77L + run;
    }

    public static void main(String[] args) {
        for (int run = 0; run < RUNS; run++) {
            ModelTest test = new ModelTest(run);
            for (int call = 0; call < CALLS; call++) {
                test.callOne();
            }
        }
        check.end();
    }

    private int below(int bound) {
        seed = seed * 6364136223846793005L + 1442695040888963407L;
        return (int) Math.floorMod(seed >>> 33, (long) bound);
    }

    private long value() {
        int choice = below(10);
        if (choice == 0) {
            return below(2) == 0 ? 1000000000L : -1000000000L;
        }
        return choice < 7 ? below(13) - 6 : below(2001) - 1000;
    }

    private long number() {
        int choice = below(10);
        if (choice == 0) {
            return below(2) == 0 ? 1000000000000L : -1000000000000L;
        }
        return choice < 7 ? below(41) - 20 : below(200001) - 100000;
    }

    private int kind() {
        int choice = below(8);
        return choice < 5 ? choice : choice - 4;
    }

    private void callOne() {
        int a = below(width + 1);
        int b = below(width + 1);
        int from = Math.min(a, b);
        int to = Math.max(a, b);
        int call = below(14);
        if (below(8) == 0) {
            callWrongly(from, to);
        } else if (call < 5) {
            change(call, from, to);
        } else {
            ask(call, from, to);
        }
    }

    /** A call with one or more wrong arguments; the model is left as it is. */
    private void callWrongly(int from, int to) {
        int mistakes = 1 + below(3);
        boolean argument = mistakes != 2;
        boolean noPart = mistakes != 1;
        int shift = 1 + below(3);
        int a = noPart && below(2) == 0 ? -shift : from;
        int b = noPart && a >= 0 ? 256 + shift : to;
        int k = noPart ? (below(2) == 0 ? -shift : 255 + shift) : below(width);
        int kind = argument && below(2) == 0 ? (below(2) == 0 ? -shift : 4 + shift) : below(5);
        long beyond = argument ? (below(2) == 0 ? -shift : shift) : 0L;
        long v = beyond == 0L ? value() : beyond + (beyond < 0 ? -1000000000L : 1000000000L);
        long x = beyond == 0L ? number() : beyond + (beyond < 0 ? -1000000000000L : 1000000000000L);
        int n = beyond == 0L ? below(1001) : beyond < 0 ? -shift : 1000 + shift;
        int what = beyond == 0L ? below(3) : beyond < 0 ? -shift : 2 + shift;
        String due = argument ? "throws.IllegalArgumentException" : "throws.IndexOutOfBoundsException";
        Check.Deed deed = switch (below(6)) {
            case 0 -> () -> row.set(k, kind, v);
            case 1 -> () -> row.fill(a, b, kind, v);
            case 2 -> () -> row.fold(a, b, x);
            case 3 -> () -> row.again(a, b, x, n);
            case 4 -> () -> row.about(a, b, what);
            default -> null;
        };
        if (deed == null) {
            askNoPart(a, b, noPart);
        } else {
            check.same("run " + run + ": a wrong call", due, Check.outcome(deed));
        }
    }

    /** These calls have nothing that could be wrong but their part or rule. */
    private void askNoPart(int a, int b, boolean noPart) {
        int from = noPart ? a : b + 1;
        int wrongRule = below(2) == 0 ? -1 - below(3) : 256 + below(3);
        int rule = below(width);
        Check.Deed deed = switch (below(6)) {
            case 0 -> () -> row.least(from, b);
            case 1 -> () -> row.greatest(from, b);
            case 2 -> () -> row.fixed(from, b, false);
            case 3 -> () -> row.fixed(from, b, true);
            case 4 -> () -> row.swap(rule, wrongRule);
            default -> () -> row.swap(wrongRule, rule);
        };
        check.same("run " + run + ": no part or rule", "throws.IndexOutOfBoundsException", Check.outcome(deed));
    }

    private void change(int call, int from, int to) {
        int kind = kind();
        long v = value();
        int j = below(width);
        int k = below(width);
        // A fill wipes much away, so it comes seldom.
        if (call < 3 || call == 4 && below(4) != 0) {
            row.set(k, kind, v);
            put(k, kind, v);
        } else if (call == 3) {
            row.swap(j, k);
            int oldKind = kinds[j];
            long oldValue = values[j];
            put(j, kinds[k], values[k]);
            put(k, oldKind, oldValue);
        } else {
            row.fill(from, to, kind, v);
            for (int i = from; i < to; i++) {
                put(i, kind, v);
            }
        }
    }

    private void put(int k, int kind, long v) {
        kinds[k] = kind;
        values[k] = v;
    }

    private void ask(int call, int from, int to) {
        String part = "run " + run + ": part " + from + ".." + to + " ";
        long x = number();
        int n = below(6) == 0 ? 1000 : below(20);
        switch (call) {
            case 5, 6 -> check.answers(part + "fold " + x, through(from, to, x), () -> row.fold(from, to, x));
            case 7 -> check.answers(part + "again " + x + " " + n, times(from, to, x, n), () -> row.again(from, to, x, n));
            case 8 -> expect(part + "least", end(from, to, -FAR), () -> row.least(from, to));
            case 9 -> expect(part + "greatest", end(from, to, FAR), () -> row.greatest(from, to));
            case 10 -> expect(part + "fixed low", lowFixed(from, to), () -> row.fixed(from, to, false));
            case 11 -> expect(part + "fixed high", highFixed(from, to), () -> row.fixed(from, to, true));
            case 12 -> check.answers(part + "about 1", busy(from, to), () -> row.about(from, to, 1));
            default -> askAbout(part, from, to);
        }
    }

    private void askAbout(String part, int from, int to) {
        long down = through(from, to, -FAR);
        long up = through(from, to, FAR);
        if (below(2) == 0) {
            check.answers(part + "about 0", down == up ? 1 : 0, () -> row.about(from, to, 0));
        } else {
            check.answers(part + "about 2", down == -FAR && up == FAR ? 1 : 0, () -> row.about(from, to, 2));
        }
    }

    private static void expect(String call, String due, Check.Call got) {
        if (due.equals(NONE)) {
            check.refuses(call, UnsupportedOperationException.class, got::answer);
        } else {
            check.answers(call, Long.parseLong(due), got);
        }
    }

    private long through(int from, int to, long x) {
        long number = x;
        for (int k = from; k < to; k++) {
            long v = values[k];
            switch (kinds[k]) {
                case 1 -> number = number + v;
                case 2 -> number = v;
                case 3 -> number = number > v ? number : v;
                case 4 -> number = number < v ? number : v;
                default -> { }
            }
        }
        return number;
    }

    private long times(int from, int to, long x, int n) {
        long number = x;
        for (int i = 0; i < n; i++) {
            number = through(from, to, number);
        }
        return number;
    }

    private String end(int from, int to, long far) {
        long there = through(from, to, far);
        return there == through(from, to, 2 * far) ? Long.toString(there) : NONE;
    }

    private long rise(int from, int to, long x) {
        return through(from, to, x) - x;
    }

    private String lowFixed(int from, int to) {
        long down = -FAR;
        long up = FAR;
        if (rise(from, to, down) <= 0 || rise(from, to, up) > 0) {
            return NONE;
        }
        while (up - down > 1) {
            long middle = (down + up) / 2;
            if (rise(from, to, middle) > 0) {
                down = middle;
            } else {
                up = middle;
            }
        }
        return rise(from, to, up) == 0 ? Long.toString(up) : NONE;
    }

    private String highFixed(int from, int to) {
        long down = -FAR;
        long up = FAR;
        if (rise(from, to, down) < 0 || rise(from, to, up) >= 0) {
            return NONE;
        }
        while (up - down > 1) {
            long middle = (down + up) / 2;
            if (rise(from, to, middle) < 0) {
                up = middle;
            } else {
                down = middle;
            }
        }
        return rise(from, to, down) == 0 ? Long.toString(down) : NONE;
    }

    private int busy(int from, int to) {
        int count = 0;
        for (int k = from; k < to; k++) {
            count += kinds[k] == 0 ? 0 : 1;
        }
        return count;
    }
}
