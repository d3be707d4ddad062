/** Each promise of the document: ordinary inputs, its edges, and wrong inputs. */
public final class PromisesTest {
    private static final Class<IllegalArgumentException> ARGUMENT = IllegalArgumentException.class;
    private static final Class<IndexOutOfBoundsException> INDEX = IndexOutOfBoundsException.class;
    private static final Class<UnsupportedOperationException> UNSUPPORTED = UnsupportedOperationException.class;
    private static final long V = 1000000000L;
    private static final long X = 1000000000000L;
    private static final int[][] NO_PARTS = {
        {-1, 0}, {-1, 256}, {0, 257}, {256, 257}, {257, 257}, {1, 0}, {256, 255}, {0, -1}, {-1, -1},
        {Integer.MIN_VALUE, 5}, {0, Integer.MAX_VALUE}, {Integer.MAX_VALUE, Integer.MIN_VALUE},
        {Integer.MIN_VALUE, Integer.MAX_VALUE}};
    private static final int[] NO_RULES = {-1, 256, Integer.MIN_VALUE, Integer.MAX_VALUE};
    private static final int[] NO_KINDS = {-1, 5, Integer.MIN_VALUE, Integer.MAX_VALUE};
    private static final long[] NO_VALUES = {V + 1, -V - 1, Long.MAX_VALUE, Long.MIN_VALUE, 1L << 32};
    private static final long[] NO_NUMBERS = {X + 1, -X - 1, Long.MAX_VALUE, Long.MIN_VALUE};

    private static final Check check = new Check();

    public static void main(String[] args) {
        newObject();
        setEachKind();
        setEdges();
        setRefuses();
        fill();
        fillRefuses();
        swap();
        swapRefuses();
        fold();
        foldRefuses();
        again();
        againRefuses();
        leastAndGreatest();
        leastAndGreatestRefuse();
        fixed();
        fixedRefuses();
        about();
        aboutRefuses();
        objectsApart();
        check.end();
    }

    /** A row made of kind and value pairs, from rule 0 on. */
    private static FoldRow row(long... pairs) {
        FoldRow row = new FoldRow();
        for (int k = 0; 2 * k < pairs.length; k++) {
            row.set(k, (int) pairs[2 * k], pairs[2 * k + 1]);
        }
        return row;
    }

    /** What can be seen of a row, in few calls: an object has only 512. */
    private static String look(FoldRow row) {
        StringBuilder text = new StringBuilder();
        for (int k = 0; k < 8; k++) {
            text.append(row.fold(k, k + 1, -X)).append(' ').append(row.fold(k, k + 1, X)).append(' ');
        }
        text.append(row.fold(255, 256, -X)).append(' ').append(row.fold(0, 256, X)).append(' ');
        return text.append(row.about(0, 256, 1)).toString();
    }

    private static void refusesUnchanged(FoldRow row, String call, Class<? extends RuntimeException> due, Check.Deed deed) {
        String before = look(row);
        check.refuses(call, due, deed);
        check.same("state after " + call, before, look(row));
    }

    private static void newObject() {
        FoldRow row = new FoldRow();
        check.answers("new fold(0, 256, X)", X, () -> row.fold(0, 256, X));
        check.answers("new fold(0, 256, -X)", -X, () -> row.fold(0, 256, -X));
        check.answers("new about 0", 0, () -> row.about(0, 256, 0));
        check.answers("new about 1", 0, () -> row.about(0, 256, 1));
        check.answers("new about 2", 1, () -> row.about(0, 256, 2));
        check.refuses("new least", UNSUPPORTED, () -> row.least(0, 256));
        check.refuses("new greatest", UNSUPPORTED, () -> row.greatest(0, 256));
    }

    private static void setEachKind() {
        long[][] due = {{-9, 4, 9}, {-5, 8, 13}, {4, 4, 4}, {4, 4, 9}, {-9, 4, 4}};
        for (int kind = 0; kind < 5; kind++) {
            FoldRow row = row(kind, 4);
            long[] answers = due[kind];
            check.answers("kind " + kind + " of -9", answers[0], () -> row.fold(0, 1, -9));
            check.answers("kind " + kind + " of 4", answers[1], () -> row.fold(0, 1, 4));
            check.answers("kind " + kind + " of 9", answers[2], () -> row.fold(0, 1, 9));
        }
    }

    private static void setEdges() {
        FoldRow row = new FoldRow();
        check.accepts("set(0, 1, V)", () -> row.set(0, 1, V));
        check.accepts("set(255, 1, -V)", () -> row.set(255, 1, -V));
        check.answers("rule 0", V, () -> row.fold(0, 1, 0));
        check.answers("rule 255", -V, () -> row.fold(255, 256, 0));
        check.answers("rules between", 0, () -> row.about(1, 255, 1));
        check.accepts("set(0, 4, 3)", () -> row.set(0, 4, 3));
        check.answers("the new rule 0", 3, () -> row.fold(0, 1, 8));
        check.accepts("set(0, 0, V)", () -> row.set(0, 0, V));
        check.answers("nothing, whatever its v", 8, () -> row.fold(0, 1, 8));
    }

    private static void setRefuses() {
        for (int kind : NO_KINDS) {
            FoldRow row = row(1, 7, 3, 2);
            refusesUnchanged(row, "set(1, " + kind + ", 0)", ARGUMENT, () -> row.set(1, kind, 0));
            refusesUnchanged(row, "set(256, " + kind + ", 0)", ARGUMENT, () -> row.set(256, kind, 0));
        }
        for (long v : NO_VALUES) {
            FoldRow row = row(1, 7, 3, 2);
            for (int kind = 0; kind < 5; kind++) {
                int k = kind;
                refusesUnchanged(row, "set(0, " + k + ", " + v + ")", ARGUMENT, () -> row.set(0, k, v));
            }
            refusesUnchanged(row, "set(-1, 1, " + v + ")", ARGUMENT, () -> row.set(-1, 1, v));
        }
        for (int k : NO_RULES) {
            FoldRow row = row(1, 7, 3, 2);
            refusesUnchanged(row, "set(" + k + ", 2, 5)", INDEX, () -> row.set(k, 2, 5));
        }
    }

    private static void fill() {
        FoldRow row = row(1, 100, 1, 100, 1, 100, 1, 100);
        check.accepts("fill(1, 3, 1, 7)", () -> row.fill(1, 3, 1, 7));
        check.answers("below the part", 100, () -> row.fold(0, 1, 0));
        check.answers("first of the part", 7, () -> row.fold(1, 2, 0));
        check.answers("last of the part", 7, () -> row.fold(2, 3, 0));
        check.answers("behind the part", 100, () -> row.fold(3, 4, 0));
        check.accepts("fill(0, 0, 2, 5)", () -> row.fill(0, 0, 2, 5));
        check.accepts("fill(256, 256, 2, 5)", () -> row.fill(256, 256, 2, 5));
        check.accepts("fill(2, 2, 2, 5)", () -> row.fill(2, 2, 2, 5));
        check.answers("empty parts change nothing", 214, () -> row.fold(0, 256, 0));
        check.accepts("fill(0, 256, 1, V)", () -> row.fill(0, 256, 1, V));
        check.answers("the whole row", 256 * V, () -> row.fold(0, 256, 0));
        check.accepts("fill(0, 256, 1, -V)", () -> row.fill(0, 256, 1, -V));
        check.answers("the whole row down", -256 * V, () -> row.fold(0, 256, 0));
        check.accepts("fill(0, 255, 0, V)", () -> row.fill(0, 255, 0, V));
        check.answers("one rule is left", 1, () -> row.about(0, 256, 1));
    }

    private static void fillRefuses() {
        for (int[] part : NO_PARTS) {
            FoldRow row = row(1, 7, 3, 2);
            String name = "fill(" + part[0] + ", " + part[1] + ", ";
            refusesUnchanged(row, name + "2, 5)", INDEX, () -> row.fill(part[0], part[1], 2, 5));
            refusesUnchanged(row, name + "5, 5)", ARGUMENT, () -> row.fill(part[0], part[1], 5, 5));
            refusesUnchanged(row, name + "2, V + 1)", ARGUMENT, () -> row.fill(part[0], part[1], 2, V + 1));
        }
        for (int kind : NO_KINDS) {
            FoldRow row = row(1, 7, 3, 2);
            refusesUnchanged(row, "fill(0, 9, " + kind + ", 1)", ARGUMENT, () -> row.fill(0, 9, kind, 1));
            refusesUnchanged(row, "fill(0, 0, " + kind + ", 1)", ARGUMENT, () -> row.fill(0, 0, kind, 1));
        }
        for (long v : NO_VALUES) {
            FoldRow row = row(1, 7, 3, 2);
            refusesUnchanged(row, "fill(0, 9, 0, " + v + ")", ARGUMENT, () -> row.fill(0, 9, 0, v));
            refusesUnchanged(row, "fill(9, 9, 1, " + v + ")", ARGUMENT, () -> row.fill(9, 9, 1, v));
        }
    }

    private static void swap() {
        FoldRow row = row(1, 10, 4, 3);
        check.accepts("swap(0, 255)", () -> row.swap(0, 255));
        check.answers("rule 0 does nothing now", 50, () -> row.fold(0, 1, 50));
        check.answers("rule 255 adds now", 60, () -> row.fold(255, 256, 50));
        check.accepts("swap(255, 1)", () -> row.swap(255, 1));
        check.answers("rule 1 adds now", 60, () -> row.fold(1, 2, 50));
        check.answers("rule 255 bounds now", 3, () -> row.fold(255, 256, 50));
        check.accepts("swap(1, 1)", () -> row.swap(1, 1));
        check.answers("a rule with itself", 60, () -> row.fold(1, 2, 50));
        check.answers("no rule is lost", 2, () -> row.about(0, 256, 1));
    }

    private static void swapRefuses() {
        for (int k : NO_RULES) {
            FoldRow row = row(1, 7, 3, 2);
            refusesUnchanged(row, "swap(" + k + ", 0)", INDEX, () -> row.swap(k, 0));
            refusesUnchanged(row, "swap(0, " + k + ")", INDEX, () -> row.swap(0, k));
            refusesUnchanged(row, "swap(" + k + ", " + k + ")", INDEX, () -> row.swap(k, k));
        }
    }

    private static void fold() {
        FoldRow row = row(3, 10, 4, 5, 1, 100, 2, -4, 1, 1);
        check.answers("greater, then lesser", 5, () -> row.fold(0, 2, 0));
        check.answers("and moved", 105, () -> row.fold(0, 3, 999));
        check.answers("and put", -4, () -> row.fold(0, 4, 999));
        check.answers("and moved again", -3, () -> row.fold(0, 256, 999));
        check.answers("from the middle", 104, () -> row.fold(1, 3, 4));
        check.answers("an empty part", 77, () -> row.fold(3, 3, 77));
        check.answers("an empty part at the end", 77, () -> row.fold(256, 256, 77));
        FoldRow far = new FoldRow();
        far.fill(0, 256, 1, V);
        check.answers("far up", X + 256 * V, () -> far.fold(0, 256, X));
        FoldRow other = row(4, 5, 3, 10, 1, -20, 3, -10, 4, -11);
        check.answers("lesser, then greater", 10, () -> other.fold(0, 2, 0));
        check.answers("the last bound wins", -11, () -> other.fold(0, 5, 0));
    }

    private static void foldRefuses() {
        FoldRow row = row(1, 7, 3, 2);
        for (long x : NO_NUMBERS) {
            refusesUnchanged(row, "fold(0, 2, " + x + ")", ARGUMENT, () -> row.fold(0, 2, x));
            check.refuses("fold(0, 257, " + x + ")", ARGUMENT, () -> row.fold(0, 257, x));
        }
        for (int[] part : NO_PARTS) {
            check.refuses("fold of no part", INDEX, () -> row.fold(part[0], part[1], 0));
        }
    }

    private static void again() {
        FoldRow row = row(1, 5, 4, 12);
        check.answers("no time", 99, () -> row.again(0, 2, 99, 0));
        check.answers("one time", 5, () -> row.again(0, 2, 0, 1));
        check.answers("two times", 10, () -> row.again(0, 2, 0, 2));
        check.answers("three times", 12, () -> row.again(0, 2, 0, 3));
        check.answers("a thousand times", 12, () -> row.again(0, 2, -4000, 1000));
        check.answers("a thousand times not there yet", 5000 - 6000, () -> row.again(0, 2, -6000, 1000));
        check.answers("an empty part", -X, () -> row.again(7, 7, -X, 1000));
        FoldRow far = new FoldRow();
        far.fill(0, 256, 1, -V);
        check.answers("far down", -X - 256000 * V, () -> far.again(0, 256, -X, 1000));
        FoldRow held = row(1, 3, 3, 0, 1, -5);
        check.answers("down to the bound", -5, () -> held.again(0, 3, 20, 1000));
        check.answers("on its way", 14, () -> held.again(0, 3, 20, 3));
    }

    private static void againRefuses() {
        FoldRow row = row(1, 7, 3, 2);
        for (int n : new int[] {-1, 1001, Integer.MIN_VALUE, Integer.MAX_VALUE}) {
            refusesUnchanged(row, "again(0, 2, 0, " + n + ")", ARGUMENT, () -> row.again(0, 2, 0, n));
            check.refuses("again(1, 0, 0, " + n + ")", ARGUMENT, () -> row.again(1, 0, 0, n));
        }
        for (long x : NO_NUMBERS) {
            check.refuses("again(0, 2, " + x + ", 0)", ARGUMENT, () -> row.again(0, 2, x, 0));
            check.refuses("again(0, 257, " + x + ", 1)", ARGUMENT, () -> row.again(0, 257, x, 1));
        }
        for (int[] part : NO_PARTS) {
            check.refuses("again of no part", INDEX, () -> row.again(part[0], part[1], 0, 0));
        }
    }

    private static void leastAndGreatest() {
        FoldRow row = row(3, -8, 1, 2, 4, 30, 1, -100, 2, 6);
        check.answers("least of one rule", -8, () -> row.least(0, 1));
        check.answers("least, moved", -6, () -> row.least(0, 2));
        check.answers("least of two bounds", -6, () -> row.least(0, 3));
        check.answers("least, moved down", -106, () -> row.least(0, 4));
        check.answers("least of a put number", 6, () -> row.least(0, 5));
        check.answers("greatest of two bounds", 30, () -> row.greatest(0, 3));
        check.answers("greatest of one rule", 30, () -> row.greatest(2, 3));
        check.answers("greatest, moved down", -70, () -> row.greatest(0, 4));
        check.answers("greatest of a put number", 6, () -> row.greatest(0, 256));
        FoldRow crossed = row(3, 10, 4, 5, 4, 20, 3, 40);
        check.answers("least under a lower high", 5, () -> crossed.least(0, 2));
        check.answers("greatest under a lower high", 5, () -> crossed.greatest(0, 2));
        check.answers("least over a higher low", 40, () -> crossed.least(2, 4));
        check.answers("greatest over a higher low", 40, () -> crossed.greatest(2, 4));
        FoldRow far = row(3, 0);
        far.fill(1, 256, 1, V);
        check.answers("least far up", 255 * V, () -> far.least(0, 256));
    }

    private static void leastAndGreatestRefuse() {
        FoldRow row = row(1, 9, 3, 2, 1, 5, 4, 70);
        refusesUnchanged(row, "least of a shift", UNSUPPORTED, () -> row.least(0, 1));
        refusesUnchanged(row, "greatest of a shift", UNSUPPORTED, () -> row.greatest(0, 1));
        check.refuses("least with a high alone", UNSUPPORTED, () -> row.least(2, 4));
        check.refuses("greatest with a low alone", UNSUPPORTED, () -> row.greatest(0, 3));
        check.refuses("least of an empty part", UNSUPPORTED, () -> row.least(2, 2));
        check.refuses("greatest of an empty part", UNSUPPORTED, () -> row.greatest(256, 256));
        for (int[] part : NO_PARTS) {
            check.refuses("least of no part", INDEX, () -> row.least(part[0], part[1]));
            check.refuses("greatest of no part", INDEX, () -> row.greatest(part[0], part[1]));
        }
    }

    private static void fixed() {
        FoldRow both = row(3, -8, 4, 30);
        check.answers("least between bounds", -8, () -> both.fixed(0, 2, false));
        check.answers("greatest between bounds", 30, () -> both.fixed(0, 2, true));
        check.answers("least over a low alone", -8, () -> both.fixed(0, 1, false));
        check.answers("greatest under a high alone", 30, () -> both.fixed(1, 2, true));
        FoldRow up = row(1, 4, 3, -8, 4, 30, 1, -1);
        check.answers("driven up, least", 29, () -> up.fixed(0, 4, false));
        check.answers("driven up, greatest", 29, () -> up.fixed(0, 4, true));
        FoldRow down = row(1, -4, 3, -8, 4, 30, 1, 1);
        check.answers("driven down, least", -7, () -> down.fixed(0, 4, false));
        check.answers("driven down, greatest", -7, () -> down.fixed(0, 4, true));
        FoldRow there = row(1, 4, 3, 6, 1, -4);
        check.answers("there and back, least", 2, () -> there.fixed(0, 3, false));
        FoldRow put = row(1, 9, 2, 5, 1, -30);
        check.answers("a put number, least", -25, () -> put.fixed(0, 3, false));
        check.answers("a put number, greatest", -25, () -> put.fixed(0, 3, true));
    }

    private static void fixedRefuses() {
        FoldRow row = row(3, -8, 1, 5, 4, 30, 1, -20);
        for (boolean high : new boolean[] {false, true}) {
            refusesUnchanged(row, "fixed of a shift", UNSUPPORTED, () -> row.fixed(1, 2, high));
            check.refuses("fixed, driven up over a low", UNSUPPORTED, () -> row.fixed(0, 2, high));
            check.refuses("fixed, driven down under a high", UNSUPPORTED, () -> row.fixed(2, 4, high));
            check.refuses("fixed of an empty part", UNSUPPORTED, () -> row.fixed(3, 3, high));
            for (int[] part : NO_PARTS) {
                check.refuses("fixed of no part", INDEX, () -> row.fixed(part[0], part[1], high));
            }
        }
        check.refuses("greatest over a low alone", UNSUPPORTED, () -> row.fixed(0, 1, true));
        check.refuses("least under a high alone", UNSUPPORTED, () -> row.fixed(2, 3, false));
    }

    private static void about() {
        FoldRow row = row(1, 5, 1, -5, 0, 9, 3, 10, 4, 10, 2, 1, 1, 0);
        check.answers("rules in all", 6, () -> row.about(0, 256, 1));
        check.answers("rules of a part", 2, () -> row.about(1, 4, 1));
        check.answers("rules of an empty part", 0, () -> row.about(3, 3, 1));
        check.answers("a shift is not the same of all", 0, () -> row.about(0, 1, 0));
        check.answers("a low bound is not", 0, () -> row.about(3, 4, 0));
        check.answers("a high bound is not", 0, () -> row.about(4, 5, 0));
        check.answers("two bounds that meet are", 1, () -> row.about(3, 5, 0));
        check.answers("a put number is", 1, () -> row.about(5, 6, 0));
        check.answers("an empty part is not", 0, () -> row.about(5, 5, 0));
        check.answers("a shift moves", 0, () -> row.about(0, 1, 2));
        check.answers("shifts that end each other", 1, () -> row.about(0, 3, 2));
        check.answers("a low bound changes some", 0, () -> row.about(3, 4, 2));
        check.answers("a high bound changes some", 0, () -> row.about(4, 5, 2));
        check.answers("a put number changes some", 0, () -> row.about(5, 6, 2));
        check.answers("a shift by 0", 1, () -> row.about(6, 7, 2));
        check.answers("an empty part changes none", 1, () -> row.about(256, 256, 2));
        FoldRow lone = row(4, -5, 3, 5, 4, 0, 3, 0);
        for (int k = 0; k < 4; k++) {
            int from = k;
            check.answers("one bound alone, rule " + k, 0, () -> lone.about(from, from + 1, 0));
        }
        FoldRow near = row(3, 10, 4, 11, 3, -V, 4, V);
        check.answers("bounds side by side", 0, () -> near.about(0, 2, 0));
        check.answers("the lowest bound changes some", 0, () -> near.about(2, 3, 2));
        check.answers("the highest bound changes some", 0, () -> near.about(3, 4, 2));
    }

    private static void aboutRefuses() {
        FoldRow row = row(1, 7, 3, 2);
        for (int what : new int[] {-1, 3, Integer.MIN_VALUE, Integer.MAX_VALUE}) {
            refusesUnchanged(row, "about(0, 2, " + what + ")", ARGUMENT, () -> row.about(0, 2, what));
            check.refuses("about(0, 257, " + what + ")", ARGUMENT, () -> row.about(0, 257, what));
        }
        for (int[] part : NO_PARTS) {
            for (int what = 0; what < 3; what++) {
                int question = what;
                check.refuses("about of no part", INDEX, () -> row.about(part[0], part[1], question));
            }
        }
    }

    private static void objectsApart() {
        FoldRow one = row(1, 7);
        FoldRow other = new FoldRow();
        check.answers("the one object", 7, () -> one.fold(0, 256, 0));
        check.answers("the other object", 0, () -> other.fold(0, 256, 0));
    }
}
