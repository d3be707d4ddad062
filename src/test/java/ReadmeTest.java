import java.io.IOException;
import java.nio.file.Files;
import java.nio.file.Path;
import java.util.List;

/** The example in README.md answers what is written beside it; .ci/run starts this where README.md lies. */
public final class ReadmeTest {
    private static final Check check = new Check();

    public static void main(String[] args) throws IOException {
        List<String> lines = Files.readAllLines(Path.of("README.md"));
        FoldRow row = new FoldRow();
        int calls = 0;
        for (String line : lines) {
            if (line.startsWith("row.")) {
                callAsWritten(row, line);
                calls++;
            }
        }
        int found = calls;
        check.answers("calls in the example", 14, () -> found);
        check.end();
    }

    private static void callAsWritten(FoldRow row, String line) {
        String name = line.substring("row.".length(), line.indexOf('('));
        String[] words = line.substring(line.indexOf('(') + 1, line.indexOf(')')).split(", ");
        String beside = line.substring(line.indexOf("// ") + 3);
        if (List.of("set", "fill", "swap").contains(name)) {
            check.accepts(line, () -> change(row, name, words));
        } else {
            String due = beside.substring(0, beside.indexOf(':'));
            check.same(line, due, Check.told(() -> ask(row, name, words)));
        }
    }

    private static void change(FoldRow row, String name, String[] words) {
        int first = Integer.parseInt(words[0]);
        int second = Integer.parseInt(words[1]);
        switch (name) {
            case "set" -> row.set(first, second, Long.parseLong(words[2]));
            case "fill" -> row.fill(first, second, Integer.parseInt(words[2]), Long.parseLong(words[3]));
            default -> row.swap(first, second);
        }
    }

    private static long ask(FoldRow row, String name, String[] words) {
        int from = Integer.parseInt(words[0]);
        int to = Integer.parseInt(words[1]);
        return switch (name) {
            case "fold" -> row.fold(from, to, Long.parseLong(words[2]));
            case "again" -> row.again(from, to, Long.parseLong(words[2]), Integer.parseInt(words[3]));
            case "least" -> row.least(from, to);
            case "greatest" -> row.greatest(from, to);
            case "fixed" -> row.fixed(from, to, Boolean.parseBoolean(words[2]));
            case "about" -> row.about(from, to, Integer.parseInt(words[2]));
            default -> throw new IllegalStateException("no such call: " + name);
        };
    }
}
