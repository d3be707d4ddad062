import java.util.ArrayList;
import java.util.List;

/**
 * One test for each sentence of the document that names a boundary, on both sides of it. No object
 * here gets more than 512 calls: what later ones answer is free.
 */
public final class BoundariesTest {
    private static final String NOTHING = "nothing";
    private static final String ARGUMENT = "throws.IllegalArgumentException";
    private static final String INDEX = "throws.IndexOutOfBoundsException";
    private static final String UNSUPPORTED = "throws.UnsupportedOperationException";
    private static final int CALLS = 512;
    private static final long V = 1000000000L;
    private static final long X = 1000000000000L;
    private static final int MIN = Integer.MIN_VALUE;
    private static final int MAX = Integer.MAX_VALUE;
    private static final int[] PLACES = {MIN, -256, -1, 0, 1, 254, 255, 256, 257, 512, MAX};
    private static final int[] KINDS = {MIN, -1, 0, 1, 2, 3, 4, 5, 256, MAX};
    private static final int[] TIMES = {MIN, -1, 0, 1, 999, 1000, 1001};
    private static final int[] QUESTIONS = {MIN, -1, 0, 1, 2, 3, MAX};
    // Those far out come back into range when they are cut to an int, or lose their sign.
    private static final long[] VALUES = {
        Long.MIN_VALUE, -(1L << 32), -V - 1, -V, -1, 0, 1, V, V + 1, 1L << 32, X, Long.MAX_VALUE};
    private static final long[] NUMBERS = {
        Long.MIN_VALUE, -(1L << 50), -X - 1, -X, -1, 0, 1, X, X + 1, 1L << 50, Long.MAX_VALUE};
    private static final int[][] PARTS = {
        {0, 0}, {0, 1}, {0, 256}, {255, 256}, {256, 256}, {100, 100}, {100, 101},
        {-1, 0}, {-1, -1}, {-1, 256}, {0, -1}, {0, 257}, {256, 257}, {257, 257}, {1, 0}, {101, 100},
        {256, 255}, {256, 0}, {MIN, 0}, {MIN, MIN}, {0, MAX}, {MAX, MAX}, {MIN, MAX}, {MAX, MIN}};

    private static final Check check = new Check();

    private interface PartCall {
        long answer(FoldRow row, int from, int to);
    }

    private interface RowDeed {
        void run(FoldRow row);
    }

    /** A call on a part, with what is due of an empty part of any row, and of rules that all put 5. */
    private record Asked(String name, PartCall call, String empty, String put) {
        String on(FoldRow row, int from, int to) {
            return Check.told(() -> call.answer(row, from, to));
        }
    }

    private static final List<Asked> ASKED = List.of(
        new Asked("fold", (row, from, to) -> row.fold(from, to, 9), "9", "5"),
        new Asked("again", (row, from, to) -> row.again(from, to, 9, 3), "9", "5"),
        new Asked("least", FoldRow::least, UNSUPPORTED, "5"),
        new Asked("greatest", FoldRow::greatest, UNSUPPORTED, "5"),
        new Asked("fixed, low", (row, from, to) -> row.fixed(from, to, false), UNSUPPORTED, "5"),
        new Asked("fixed, high", (row, from, to) -> row.fixed(from, to, true), UNSUPPORTED, "5"),
        new Asked("about 0", (row, from, to) -> row.about(from, to, 0), "0", "1"),
        new Asked("about 2", (row, from, to) -> row.about(from, to, 2), "1", "0"));

    public static void main(String[] args) {
        lastCallsOfAnObject();
        rulesInRange();
        valuesInRange();
        kindsInRange();
        partsInRange();
        emptyParts();
        rulesOfAPart();
        wholeRow();
        exceptionsOfSet();
        exceptionsOfFill();
        exceptionsOfFoldAndAgain();
        exceptionsOfAbout();
        exceptionsOfTheRest();
        throwingChangesNothing();
        newObject();
        setOneRule();
        fillAllOfAPart();
        swapTwo();
        foldNumbers();
        againNumbersAndTimes();
        leastOrNone();
        greatestOrNone();
        fixedOrNone();
        fixedBeyond();
        aboutSameOfAll();
        aboutRules();
        aboutEachItself();
        check.end();
    }

    /** A row made of kind and value pairs, from rule 0 on. */
    private static FoldRow row(long... pairs) {
        FoldRow row = new FoldRow();
        for (int k = 0; 2 * k < pairs.length; k++) {
            row.set(k, (int) pairs[2 * k], pairs[2 * k + 1]);
        }
        return row;
    }

    private static FoldRow filled(int kind, long v) {
        FoldRow row = new FoldRow();
        row.fill(0, 256, kind, v);
        return row;
    }

    private static boolean isPart(int from, int to) {
        return 0 <= from && from <= to && to <= 256;
    }

    private static boolean isRule(int k) {
        return 0 <= k && k <= 255;
    }

    private static boolean isWrongKindOrValue(int kind, long v) {
        return kind < 0 || kind > 4 || v < -V || v > V;
    }

    private static boolean isNumber(long x) {
        return -X <= x && x <= X;
    }

    private static String due(boolean wrongArgument, boolean there) {
        if (wrongArgument) {
            return ARGUMENT;
        }
        return there ? NOTHING : INDEX;
    }

    // "An object is used for at most 512 calls after it has been made": the 512th is still as promised.
    private static void lastCallsOfAnObject() {
        List<RowDeed> before = List.of(
            row -> row.set(200, 1, 3),
            row -> row.fill(0, 256, 0, 0),
            row -> row.swap(0, 255),
            row -> row.fold(0, 256, X),
            row -> row.again(0, 256, X, 1000),
            row -> row.about(0, 256, 1),
            row -> Check.told(() -> row.least(0, 256)),
            row -> Check.told(() -> row.greatest(0, 256)),
            row -> Check.told(() -> row.fixed(0, 256, true)),
            row -> Check.told(() -> row.fold(0, 257, 0)));
        for (int i = 0; i < before.size(); i++) {
            String name = "call 512 behind calls of sort " + i + ": ";
            for (Asked asked : ASKED) {
                FoldRow row = used(before.get(i), CALLS - 2);
                row.fill(10, 20, 2, 5);
                check.same(name + asked.name(), asked.put(), asked.on(row, 10, 20));
            }
            lastChanges(name, before.get(i));
            FoldRow row = used(before.get(i), CALLS - 1);
            check.same(name + "set(256, 1, 1)", INDEX, Check.outcome(() -> row.set(256, 1, 1)));
        }
    }

    private static FoldRow used(RowDeed deed, int times) {
        FoldRow row = new FoldRow();
        for (int i = 0; i < times; i++) {
            deed.run(row);
        }
        return row;
    }

    private static void lastChanges(String name, RowDeed deed) {
        FoldRow set = used(deed, CALLS - 2);
        set.set(77, 1, 9);
        check.answers(name + "fold of a rule set", 9, () -> set.fold(77, 78, 0));
        FoldRow swapped = used(deed, CALLS - 3);
        swapped.set(77, 1, 9);
        swapped.swap(77, 150);
        check.answers(name + "fold of a rule swapped", 9, () -> swapped.fold(150, 151, 0));
        FoldRow counted = used(deed, CALLS - 2);
        counted.fill(10, 20, 1, 1);
        check.answers(name + "about 1", 10, () -> counted.about(10, 20, 1));
    }

    // "RULES 0..255"
    private static void rulesInRange() {
        for (int k : PLACES) {
            String due = isRule(k) ? NOTHING : INDEX;
            check.same("set(" + k + ", 1, 1)", due, Check.outcome(() -> new FoldRow().set(k, 1, 1)));
            check.same("swap(" + k + ", 5)", due, Check.outcome(() -> new FoldRow().swap(k, 5)));
            check.same("swap(5, " + k + ")", due, Check.outcome(() -> new FoldRow().swap(5, k)));
        }
    }

    // "with v (-1000000000 to 1000000000)": for each KIND, that of nothing too, and kept to the last digit.
    private static void valuesInRange() {
        for (long v : VALUES) {
            String due = v < -V || v > V ? ARGUMENT : NOTHING;
            for (int kind = 0; kind <= 4; kind++) {
                int sort = kind;
                FoldRow row = new FoldRow();
                check.same("set(0, " + kind + ", " + v + ")", due, Check.outcome(() -> row.set(0, sort, v)));
                check.same("fill(1, 2, " + kind + ", " + v + ")", due, Check.outcome(() -> row.fill(1, 2, sort, v)));
            }
        }
        for (long v : new long[] {-V, -V + 1, V - 1, V}) {
            FoldRow row = row(1, v, 2, v, 3, v, 4, v);
            check.answers("X + " + v, X + v, () -> row.fold(0, 1, X));
            check.answers("put " + v, v, () -> row.fold(1, 2, X));
            check.answers("greater one of -X and " + v, v, () -> row.fold(2, 3, -X));
            check.answers("greater one at " + v, v + 1, () -> row.fold(2, 3, v + 1));
            check.answers("lesser one of X and " + v, v, () -> row.fold(3, 4, X));
            check.answers("lesser one at " + v, v - 1, () -> row.fold(3, 4, v - 1));
        }
    }

    // "each of a KIND .. 0 .. 4": what each makes just below v, of v, and just above it.
    private static void kindsInRange() {
        for (int kind : KINDS) {
            String due = kind < 0 || kind > 4 ? ARGUMENT : NOTHING;
            check.same("set(0, " + kind + ", 1)", due, Check.outcome(() -> new FoldRow().set(0, kind, 1)));
            check.same("fill(0, 0, " + kind + ", 1)", due, Check.outcome(() -> new FoldRow().fill(0, 0, kind, 1)));
        }
        for (long v : new long[] {-V, -7, 0, 7, V}) {
            long[][] made = {
                {v - 1, v, v + 1}, {2 * v - 1, 2 * v, 2 * v + 1}, {v, v, v}, {v, v, v + 1}, {v - 1, v, v}};
            for (int kind = 0; kind <= 4; kind++) {
                FoldRow row = row(kind, v);
                for (int step = -1; step <= 1; step++) {
                    long x = v + step;
                    check.answers("kind " + kind + ", v " + v + " of " + x, made[kind][step + 1], () -> row.fold(0, 1, x));
                }
            }
        }
    }

    // "A PART of the row: .. (0 <= from <= to <= 256)": all pairs round the row, for each call.
    private static void partsInRange() {
        for (int from = -2; from <= 258; from++) {
            for (Asked asked : ASKED) {
                FoldRow row = filled(2, 5);
                for (int to = -2; to <= 258; to++) {
                    String inside = from == to ? asked.empty() : asked.put();
                    String due = isPart(from, to) ? inside : INDEX;
                    check.same(asked.name() + " of " + from + ", " + to, due, asked.on(row, from, to));
                }
            }
            partsInRangeOfFillAndCount(from);
        }
    }

    private static void partsInRangeOfFillAndCount(int from) {
        FoldRow counted = filled(2, 5);
        FoldRow changed = new FoldRow();
        for (int to = -2; to <= 258; to++) {
            int below = to;
            String count = isPart(from, to) ? Integer.toString(to - from) : INDEX;
            check.same("about 1 of " + from + ", " + to, count, Check.told(() -> counted.about(from, below, 1)));
            String due = isPart(from, to) ? NOTHING : INDEX;
            check.same("fill of " + from + ", " + to, due, Check.outcome(() -> changed.fill(from, below, 1, 1)));
        }
    }

    // The empty PART, at every place: it does nothing, and fill changes nothing.
    private static void emptyParts() {
        for (int k = 0; k <= 256; k++) {
            int at = k;
            FoldRow row = filled(1, 3);
            check.same("fill of an empty part", NOTHING, Check.outcome(() -> row.fill(at, at, 2, 8)));
            check.answers("no rule of " + k + ", " + k, 0, () -> row.about(at, at, 1));
            check.answers("no time at " + k, X, () -> row.again(at, at, X, 0));
            check.answers("a thousand times at " + k, -X, () -> row.again(at, at, -X, 1000));
            check.answers("the row behind it", 768, () -> row.fold(0, 256, 0));
            for (Asked asked : ASKED) {
                check.same(asked.name() + " of an empty part", asked.empty(), asked.on(row, at, at));
            }
        }
    }

    // "the RULES from from on, below to": rule k adds k + 1, so that each sum tells which rules there were.
    private static void rulesOfAPart() {
        for (int from = 0; from <= 256; from++) {
            int first = from;
            FoldRow row = new FoldRow();
            for (int k = from; k < 256; k++) {
                row.set(k, 1, k + 1);
            }
            // Going down spares the calls: 256 at most to set, 256 at most to ask.
            for (int to = 256; to > from; to--) {
                int below = to;
                long due = (long) to * (to + 1) / 2 - (long) from * (from + 1) / 2;
                check.answers("fold of " + from + ", " + to, due, () -> row.fold(first, below, 0));
            }
        }
    }

    // The whole row: its first and its last rule are part of it, for each call.
    private static void wholeRow() {
        for (int k : new int[] {0, 255}) {
            FoldRow row = new FoldRow();
            row.set(k, 2, 5);
            for (Asked asked : ASKED) {
                check.same(asked.name() + " of the whole row, put at " + k, asked.put(), asked.on(row, 0, 256));
                check.same(asked.name() + " beside rule " + k, asked.empty(), asked.on(row, k == 0 ? 1 : 0, k == 0 ? 256 : 255));
            }
            check.answers("about 1 of the whole row", 1, () -> row.about(0, 256, 1));
        }
        FoldRow up = filled(1, V);
        check.answers("256 times up", X + 256 * V, () -> up.fold(0, 256, X));
        FoldRow down = filled(1, -V);
        check.answers("256 times down", -X - 256 * V, () -> down.fold(0, 256, -X));
    }

    // "Of several exceptions the one is thrown that the heading of the call names first" (set).
    private static void exceptionsOfSet() {
        for (int k : PLACES) {
            for (int kind : KINDS) {
                FoldRow row = new FoldRow();
                for (long v : VALUES) {
                    String due = due(isWrongKindOrValue(kind, v), isRule(k));
                    check.same("set(" + k + ", " + kind + ", " + v + ")", due, Check.outcome(() -> row.set(k, kind, v)));
                }
            }
        }
    }

    // The same for fill: "IllegalArgumentException likewise", and the PART looked at last.
    private static void exceptionsOfFill() {
        for (int[] part : PARTS) {
            for (int kind : KINDS) {
                FoldRow row = new FoldRow();
                for (long v : VALUES) {
                    String due = due(isWrongKindOrValue(kind, v), isPart(part[0], part[1]));
                    String name = "fill(" + part[0] + ", " + part[1] + ", " + kind + ", " + v + ")";
                    check.same(name, due, Check.outcome(() -> row.fill(part[0], part[1], kind, v)));
                }
            }
        }
    }

    // The same for fold and again.
    private static void exceptionsOfFoldAndAgain() {
        for (int[] part : PARTS) {
            int from = part[0];
            int to = part[1];
            for (long x : NUMBERS) {
                FoldRow row = filled(1, 1);
                String name = "(" + from + ", " + to + ", " + x;
                String due = due(!isNumber(x), isPart(from, to));
                check.same("fold" + name + ")", due, Check.outcome(() -> row.fold(from, to, x)));
                for (int n : TIMES) {
                    String dueAgain = due(!isNumber(x) || n < 0 || n > 1000, isPart(from, to));
                    check.same("again" + name + ", " + n + ")", dueAgain, Check.outcome(() -> row.again(from, to, x, n)));
                }
            }
        }
    }

    // The same for about.
    private static void exceptionsOfAbout() {
        for (int[] part : PARTS) {
            for (int what : QUESTIONS) {
                FoldRow row = filled(1, 1);
                String due = due(what < 0 || what > 2, isPart(part[0], part[1]));
                String name = "about(" + part[0] + ", " + part[1] + ", " + what + ")";
                check.same(name, due, Check.outcome(() -> row.about(part[0], part[1], what)));
            }
        }
    }

    // The same for swap, least, greatest and fixed: no such PART goes before no such number.
    private static void exceptionsOfTheRest() {
        for (int j : PLACES) {
            for (int k : PLACES) {
                String due = isRule(j) && isRule(k) ? NOTHING : INDEX;
                check.same("swap(" + j + ", " + k + ")", due, Check.outcome(() -> new FoldRow().swap(j, k)));
            }
        }
        for (FoldRow row : List.of(new FoldRow(), filled(1, 1), filled(1, -1))) {
            for (int[] part : PARTS) {
                String due = isPart(part[0], part[1]) ? UNSUPPORTED : INDEX;
                for (Asked asked : ASKED.subList(2, 6)) {
                    check.same(asked.name() + " of " + part[0] + ", " + part[1], due, asked.on(row, part[0], part[1]));
                }
            }
        }
    }

    // "what throws changes nothing": every rule is looked at behind each call that throws.
    private static void throwingChangesNothing() {
        List<RowDeed> deeds = new ArrayList<>();
        for (int kind : new int[] {-1, 5}) {
            deeds.add(row -> row.set(3, kind, 99));
            deeds.add(row -> row.set(256, kind, 99));
            deeds.add(row -> row.fill(0, 256, kind, 99));
            deeds.add(row -> row.fill(250, 257, kind, 99));
        }
        for (long v : new long[] {-V - 1, V + 1}) {
            for (int kind = 0; kind <= 4; kind++) {
                int sort = kind;
                deeds.add(row -> row.set(3, sort, v));
                deeds.add(row -> row.fill(0, 256, sort, v));
            }
            deeds.add(row -> row.set(-1, 2, v));
            deeds.add(row -> row.fill(250, 257, 2, v));
        }
        for (int k : new int[] {-1, 256, 257, MIN, MAX}) {
            deeds.add(row -> row.set(k, 2, 99));
            deeds.add(row -> row.swap(k, 3));
            deeds.add(row -> row.swap(3, k));
            deeds.add(row -> row.swap(k, k));
        }
        addThrowingOnParts(deeds);
        for (int i = 0; i < deeds.size(); i++) {
            throwsAndLeaves("call " + i + " that throws", deeds.get(i));
        }
    }

    private static void addThrowingOnParts(List<RowDeed> deeds) {
        for (int[] part : PARTS) {
            int from = part[0];
            int to = part[1];
            for (Asked asked : ASKED.subList(2, 6)) {
                deeds.add(row -> asked.call().answer(row, from, to));
            }
            for (long x : new long[] {-X - 1, X + 1}) {
                deeds.add(row -> row.fold(from, to, x));
                deeds.add(row -> row.again(from, to, x, 2));
            }
            for (int n : new int[] {-1, 1001}) {
                deeds.add(row -> row.again(from, to, 1, n));
            }
            for (int what : new int[] {-1, 3}) {
                deeds.add(row -> row.about(from, to, what));
            }
            if (!isPart(from, to)) {
                deeds.add(row -> row.fill(from, to, 0, 0));
                deeds.add(row -> row.fill(from, to, 2, 99));
                deeds.add(row -> row.fold(from, to, 1));
                deeds.add(row -> row.again(from, to, 1, 2));
                for (int what = 0; what <= 2; what++) {
                    int question = what;
                    deeds.add(row -> row.about(from, to, question));
                }
            }
        }
    }

    /** 129 calls make the row, one throws, 256 look: below 512. */
    private static void throwsAndLeaves(String name, RowDeed deed) {
        FoldRow row = new FoldRow();
        row.fill(128, 256, 1, 7777);
        for (int k = 0; k < 128; k++) {
            row.set(k, 1, k + 1);
        }
        String outcome = Check.outcome(() -> deed.run(row));
        check.same(name, "true", Boolean.toString(outcome.startsWith("throws.")));
        for (int k = 0; k < 256; k++) {
            int at = k;
            check.answers(name + ", rule " + k, k < 128 ? k + 2 : 7778, () -> row.fold(at, at + 1, 1));
        }
    }

    // Promise 1, "All RULES do nothing": each of the 256, and beside an object that is not new.
    private static void newObject() {
        FoldRow old = filled(2, 5);
        FoldRow row = new FoldRow();
        for (int k = 0; k < 256; k++) {
            int at = k;
            check.answers("new rule " + k + " of X", X, () -> row.fold(at, at + 1, X));
            check.answers("new rule " + k + " of each number", 1, () -> row.about(at, at + 1, 2));
        }
        FoldRow other = new FoldRow();
        check.answers("new row of -X", -X, () -> other.fold(0, 256, -X));
        check.answers("new row of 0", 0, () -> other.fold(0, 256, 0));
        check.answers("new row, a thousand times", X, () -> other.again(0, 256, X, 1000));
        check.answers("new row, rules", 0, () -> other.about(0, 256, 1));
        check.answers("new row, each number itself", 1, () -> other.about(0, 256, 2));
        check.answers("new row, same of all", 0, () -> other.about(0, 256, 0));
        for (Asked asked : ASKED.subList(2, 6)) {
            check.same("new row, " + asked.name(), UNSUPPORTED, asked.on(other, 0, 256));
        }
        check.answers("the object that is not new", 5, () -> old.fold(0, 256, X));
    }

    // Promise 2, "RULE k is another one": that one alone, and the one before it is gone.
    private static void setOneRule() {
        for (int k = 0; k <= 255; k++) {
            int at = k;
            FoldRow row = new FoldRow();
            row.set(k, 1, 3);
            check.answers("below rule " + k, 0, () -> row.about(0, at, 1));
            check.answers("rule " + k, 4, () -> row.fold(at, at + 1, 1));
            check.answers("above rule " + k, 0, () -> row.about(at + 1, 256, 1));
            row.set(k, 2, -6);
            check.answers("another rule " + k, -6, () -> row.fold(at, at + 1, 1));
            row.set(k, 0, V);
            check.answers("nothing at rule " + k, 1, () -> row.fold(at, at + 1, 1));
            check.answers("rules left", 0, () -> row.about(0, 256, 1));
        }
    }

    // Promise 3, "All RULES of a PART are such ones": all of them, and none beside, for every PART.
    private static void fillAllOfAPart() {
        for (int from = 0; from <= 256; from++) {
            for (int to = from; to <= 256; to++) {
                int first = from;
                int below = to;
                FoldRow row = new FoldRow();
                row.fill(from, to, 1, V);
                String name = "fill(" + from + ", " + to + ", 1, V), ";
                check.answers(name + "below", 0, () -> row.about(0, first, 1));
                check.answers(name + "inside", to - from, () -> row.about(first, below, 1));
                check.answers(name + "above", 0, () -> row.about(below, 256, 1));
                check.answers(name + "fold", (to - from) * V, () -> row.fold(0, 256, 0));
            }
        }
        FoldRow cleared = filled(3, 8);
        cleared.fill(1, 255, 0, -V);
        check.answers("filled with nothing", 2, () -> cleared.about(0, 256, 1));
    }

    // Promise 4, "Two RULES change their places": kind and v of both, any two, a rule with itself too.
    private static void swapTwo() {
        for (int j = 0; j <= 255; j++) {
            for (int k = 0; k <= 255; k++) {
                int one = j;
                int other = k;
                FoldRow row = new FoldRow();
                row.set(k, 4, -3);
                row.set(j, 1, 5);
                row.swap(j, k);
                String name = "swap(" + j + ", " + k + "), ";
                check.answers(name + "the one at " + k, 15, () -> row.fold(other, other + 1, 10));
                check.answers(name + "the other at " + j, j == k ? 15 : -3, () -> row.fold(one, one + 1, 10));
                check.answers(name + "rules", j == k ? 1 : 2, () -> row.about(0, 256, 1));
            }
        }
    }

    // Promise 5, "x is not -1000000000000 to 1000000000000": x alone is bound, not what is made of it.
    private static void foldNumbers() {
        FoldRow row = row(1, 1, 1, -1, 1, V, 1, V);
        for (long x : NUMBERS) {
            String due = isNumber(x) ? Long.toString(x + 1) : ARGUMENT;
            check.same("fold(0, 1, " + x + ")", due, Check.told(() -> row.fold(0, 1, x)));
            String same = isNumber(x) ? Long.toString(x) : ARGUMENT;
            check.same("fold(9, 9, " + x + ")", same, Check.told(() -> row.fold(9, 9, x)));
        }
        check.answers("just within, up", X, () -> row.fold(0, 1, X - 1));
        check.answers("just within, down", -X, () -> row.fold(1, 2, -X + 1));
        check.answers("made beyond the bound", X + 2 * V, () -> row.fold(2, 4, X));
        check.answers("made below the bound", -X - 1, () -> row.fold(1, 2, -X));
    }

    // Promise 6, "n times in all", "x, or n is not 0..1000": every n, and the first ones beyond.
    private static void againNumbersAndTimes() {
        for (int start = 0; start <= 1000; start += 250) {
            FoldRow row = row(1, 1);
            for (int n = start; n < start + 250 && n <= 1000; n++) {
                int times = n;
                check.answers("again(0, 1, 0, " + n + ")", n, () -> row.again(0, 1, 0, times));
            }
        }
        FoldRow row = row(1, -1, 3, 5);
        for (int n : TIMES) {
            String due = n < 0 || n > 1000 ? ARGUMENT : Long.toString(X - n);
            check.same("again(0, 1, X, " + n + ")", due, Check.told(() -> row.again(0, 1, X, n)));
        }
        for (long x : NUMBERS) {
            for (int n : new int[] {0, 1, 1000}) {
                String due = isNumber(x) ? Long.toString(x - n) : ARGUMENT;
                check.same("again(0, 1, " + x + ", " + n + ")", due, Check.told(() -> row.again(0, 1, x, n)));
            }
        }
        // Once only: a program that took it would be at it for long.
        check.same("again(0, 1, X, MAX)", ARGUMENT, Check.told(() -> row.again(0, 1, X, MAX)));
        check.answers("one time short of the bound", 6, () -> row.again(0, 2, 1005, 999));
        check.answers("just at the bound", 5, () -> row.again(0, 2, 1005, 1000));
        check.answers("held at the bound", 5, () -> row.again(0, 2, 1004, 1000));
        FoldRow up = filled(1, V);
        check.answers("made far beyond x's bound", X + 256000 * V, () -> up.again(0, 256, X, 1000));
        FoldRow down = filled(1, -V);
        check.answers("made far below x's bound", -X - 256000 * V, () -> down.again(0, 256, -X, 1000));
    }

    // Promise 7, "there is none (there are ever lesser ones)".
    private static void leastOrNone() {
        FoldRow row = row(4, -V, 1, V, 3, -V, 1, -V, 4, V, 2, 0, 1, -1);
        check.refuses("high bounds alone", UnsupportedOperationException.class, () -> row.least(0, 2));
        check.refuses("shifts alone", UnsupportedOperationException.class, () -> row.least(1, 2));
        check.answers("the lowest low bound", -V, () -> row.least(2, 3));
        check.answers("a low bound behind a high one", -V, () -> row.least(0, 3));
        check.answers("a low bound, moved", -2 * V, () -> row.least(2, 4));
        check.answers("a low bound before a high one", -2 * V, () -> row.least(2, 5));
        check.refuses("behind the low bound", UnsupportedOperationException.class, () -> row.least(3, 5));
        check.answers("a put number", 0, () -> row.least(3, 6));
        check.answers("a put number, moved", -1, () -> row.least(3, 7));
        FoldRow crossed = row(3, 6, 4, 6, 4, 5, 3, 5);
        check.answers("bounds that meet", 6, () -> crossed.least(0, 2));
        check.answers("a low bound under which a high one went", 5, () -> crossed.least(0, 3));
        check.answers("two that crossed", 5, () -> crossed.least(0, 4));
        FoldRow narrowed = row(3, 1, 4, 9, 3, 2, 3, 1);
        check.answers("a second low bound, higher", 2, () -> narrowed.least(0, 3));
        check.answers("a third one, lower", 2, () -> narrowed.least(0, 4));
        FoldRow far = filled(1, -V);
        far.set(0, 3, -V);
        check.answers("the least number of all rows", -256 * V, () -> far.least(0, 256));
        check.refuses("without its low bound", UnsupportedOperationException.class, () -> far.least(1, 256));
    }

    // Promise 8, "there is none (there are ever greater ones)".
    private static void greatestOrNone() {
        FoldRow row = row(3, V, 1, -V, 4, V, 1, V, 3, -V, 2, 0, 1, 1);
        check.refuses("low bounds alone", UnsupportedOperationException.class, () -> row.greatest(0, 2));
        check.refuses("shifts alone", UnsupportedOperationException.class, () -> row.greatest(1, 2));
        check.answers("the highest high bound", V, () -> row.greatest(2, 3));
        check.answers("a high bound behind a low one", V, () -> row.greatest(0, 3));
        check.answers("a high bound, moved", 2 * V, () -> row.greatest(2, 4));
        check.answers("a high bound before a low one", 2 * V, () -> row.greatest(2, 5));
        check.refuses("behind the high bound", UnsupportedOperationException.class, () -> row.greatest(3, 5));
        check.answers("a put number", 0, () -> row.greatest(3, 6));
        check.answers("a put number, moved", 1, () -> row.greatest(3, 7));
        FoldRow crossed = row(4, 5, 3, 5, 3, 6, 4, 6);
        check.answers("bounds that meet", 5, () -> crossed.greatest(0, 2));
        check.answers("a high bound over which a low one went", 6, () -> crossed.greatest(0, 3));
        check.answers("two that crossed", 6, () -> crossed.greatest(0, 4));
        FoldRow narrowed = row(4, 9, 3, 1, 4, 8, 4, 9);
        check.answers("a second high bound, lower", 8, () -> narrowed.greatest(0, 3));
        check.answers("a third one, higher", 8, () -> narrowed.greatest(0, 4));
        FoldRow far = filled(1, V);
        far.set(0, 4, V);
        check.answers("the greatest number of all rows", 256 * V, () -> far.greatest(0, 256));
        check.refuses("without its high bound", UnsupportedOperationException.class, () -> far.greatest(1, 256));
    }

    private static void fixedIs(String name, FoldRow row, String low, String high) {
        check.same(name + ", least", low, Check.told(() -> row.fixed(0, 256, false)));
        check.same(name + ", greatest", high, Check.told(() -> row.fixed(0, 256, true)));
    }

    // Promise 9, "there is no such number, or there are ever lesser (greater) ones".
    private static void fixedOrNone() {
        fixedIs("all numbers stay", row(1, 1, 1, -1), UNSUPPORTED, UNSUPPORTED);
        fixedIs("none stays, up by 1", row(1, 1), UNSUPPORTED, UNSUPPORTED);
        fixedIs("none stays, down by 1", row(1, -1), UNSUPPORTED, UNSUPPORTED);
        fixedIs("those from 5 on stay", row(3, 5), "5", UNSUPPORTED);
        fixedIs("those to 5 stay", row(4, 5), UNSUPPORTED, "5");
        fixedIs("those between stay", row(3, 5, 4, 6), "5", "6");
        fixedIs("those between narrowed bounds stay", row(3, 1, 4, 9, 3, 2, 4, 8), "2", "8");
        fixedIs("one stays between bounds that meet", row(3, 5, 4, 5), "5", "5");
        fixedIs("one stays between bounds that crossed", row(3, 5, 4, 4), "4", "4");
        fixedIs("none stays, up by 1 over a low bound", row(1, 1, 3, 5), UNSUPPORTED, UNSUPPORTED);
        fixedIs("none stays, down by 1 under a high bound", row(1, -1, 4, 5), UNSUPPORTED, UNSUPPORTED);
        fixedIs("one stays, down by 1 to a low bound", row(1, -1, 3, 5), "5", "5");
        fixedIs("one stays, up by 1 to a high bound", row(1, 1, 4, 5), "5", "5");
        fixedIs("one stays, up by 1 between bounds", row(1, 1, 3, 5, 4, 9), "9", "9");
        fixedIs("one stays, down by 1 between bounds", row(1, -1, 3, 5, 4, 9), "5", "5");
        fixedIs("none stays, a low bound moved up", row(3, 5, 1, 1), UNSUPPORTED, UNSUPPORTED);
        fixedIs("one stays, a low bound moved down", row(3, 5, 1, -1), "4", "4");
        fixedIs("none stays, a high bound moved down", row(4, 5, 1, -1), UNSUPPORTED, UNSUPPORTED);
        fixedIs("one stays, a high bound moved up", row(4, 5, 1, 1), "6", "6");
        fixedIs("moved there and back over a low bound", row(1, 7, 3, 5, 1, -7), "-2", UNSUPPORTED);
        fixedIs("moved there and back under a high bound", row(1, -7, 4, 5, 1, 7), UNSUPPORTED, "12");
        fixedIs("a put number", row(1, 3, 2, 0), "0", "0");
        fixedIs("a put number, moved", row(2, V, 1, -1), Long.toString(V - 1), Long.toString(V - 1));
    }

    // Promise 9, "whole number": the one that stays may lie beyond every v, and is no x of its own.
    private static void fixedBeyond() {
        FoldRow up = filled(1, V);
        up.set(0, 4, V);
        fixedIs("far up", up, Long.toString(256 * V), Long.toString(256 * V));
        up.set(0, 3, V);
        fixedIs("driven far up", up, UNSUPPORTED, UNSUPPORTED);
        FoldRow down = filled(1, -V);
        down.set(0, 3, -V);
        fixedIs("far down", down, Long.toString(-256 * V), Long.toString(-256 * V));
        down.set(0, 4, -V);
        fixedIs("driven far down", down, UNSUPPORTED, UNSUPPORTED);
    }

    private static void aboutIs(int what, String name, long due, FoldRow row) {
        check.answers("about " + what + ", " + name, due, () -> row.about(0, 256, what));
    }

    // Promise 10, what 0: "whether it makes the same of all numbers (1, 0)".
    private static void aboutSameOfAll() {
        aboutIs(0, "nothing", 0, new FoldRow());
        aboutIs(0, "a shift", 0, row(1, V));
        aboutIs(0, "a low bound", 0, row(3, V));
        aboutIs(0, "a high bound", 0, row(4, -V));
        aboutIs(0, "a low bound at 0", 0, row(3, 0));
        aboutIs(0, "a high bound at 0", 0, row(4, 0));
        aboutIs(0, "bounds one apart", 0, row(3, 5, 4, 6));
        aboutIs(0, "bounds that meet", 1, row(3, 5, 4, 5));
        aboutIs(0, "bounds that crossed", 1, row(3, 5, 4, 4));
        aboutIs(0, "bounds one apart, high first", 0, row(4, 6, 3, 5));
        aboutIs(0, "bounds that meet, high first", 1, row(4, 5, 3, 5));
        aboutIs(0, "bounds that crossed, high first", 1, row(4, 4, 3, 5));
        aboutIs(0, "bounds moved apart", 0, row(3, 5, 1, -1, 4, 5));
        aboutIs(0, "bounds moved together", 1, row(3, 5, 1, 1, 4, 6));
        aboutIs(0, "a put number", 1, row(2, 0));
        aboutIs(0, "a put number, moved and bound", 1, row(2, 0, 1, 4, 3, 9, 4, 20));
        aboutIs(0, "the lowest and the highest bound", 0, row(3, -V, 4, V));
    }

    // Promise 10, what 1: "RULES that are not of KIND 0", from none to all.
    private static void aboutRules() {
        aboutIs(1, "none", 0, new FoldRow());
        aboutIs(1, "nothing with a v", 0, filled(0, V));
        for (int kind = 1; kind <= 4; kind++) {
            aboutIs(1, "one of kind " + kind + " with v 0", 1, row(kind, 0));
            aboutIs(1, "all of kind " + kind, 256, filled(kind, 0));
        }
        FoldRow row = filled(4, 1);
        row.set(128, 0, 1);
        aboutIs(1, "all but one", 255, row);
        FoldRow ends = new FoldRow();
        ends.set(10, 1, 1);
        ends.set(20, 1, 1);
        check.answers("the first is counted, the last is not", 1, () -> ends.about(10, 20, 1));
        check.answers("the first is left out", 0, () -> ends.about(11, 20, 1));
        check.answers("the last is counted", 2, () -> ends.about(10, 21, 1));
    }

    // Promise 10, what 2: "whether it makes of each number that number".
    private static void aboutEachItself() {
        aboutIs(2, "nothing", 1, new FoldRow());
        aboutIs(2, "up by 1", 0, row(1, 1));
        aboutIs(2, "down by 1", 0, row(1, -1));
        aboutIs(2, "by 0", 1, row(1, 0));
        aboutIs(2, "there and back", 1, row(1, V, 1, -V));
        aboutIs(2, "there and not all the way back", 0, row(1, V, 1, -V + 1));
        aboutIs(2, "the lowest low bound", 0, row(3, -V));
        aboutIs(2, "the highest high bound", 0, row(4, V));
        aboutIs(2, "the lowest and the highest bound", 0, row(3, -V, 4, V));
        aboutIs(2, "a low bound between shifts that end each other", 0, row(1, V, 3, -V, 1, -V));
        aboutIs(2, "a high bound between shifts that end each other", 0, row(1, -V, 4, V, 1, V));
        aboutIs(2, "a put number", 0, row(2, 0));
        // The sum of all shifts is a multiple of 2 to the 32nd: it would be 0 in an int.
        FoldRow far = row(1, V, 1, V, 1, V, 1, V, 1, 294967296L);
        check.answers("far away", 1L << 32, () -> far.fold(0, 256, 0));
        aboutIs(2, "far away", 0, far);
    }
}
