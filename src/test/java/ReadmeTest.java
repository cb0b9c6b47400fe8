import java.io.IOException;
import java.nio.file.Files;
import java.nio.file.Path;
import java.util.ArrayList;
import java.util.List;
import java.util.Map;
import java.util.regex.Matcher;
import java.util.regex.Pattern;

/** README's example: each call, one behind the other on one object, answers what the comment behind it begins with. */
public final class ReadmeTest extends Bench {
    private static final Path README = Path.of("README.md");
    private static final Pattern CALL = Pattern.compile("x\\.(\\w+)\\((.*)\\);\\s+// (-?\\d+|[A-Z]+)(?::.*)?");
    private static final Map<String, Long> NAMES = Map.of("NONE", -1L, "BAD", -2L, "STATE", -3L, "FULL", -4L,
        "NO", Long.MIN_VALUE);

    private void example(String block) {
        List<String> calls = new ArrayList<>();
        List<Long> answers = new ArrayList<>();
        for (String line : block.split("\n")) {
            Matcher m = CALL.matcher(line);
            so("a line that can be looked at: " + line, m.matches() || !line.startsWith("x."));
            if (m.matches()) {
                calls.add(words(m.group(1), m.group(2)));
                Long named = NAMES.get(m.group(3));
                answers.add(named != null ? named : Long.valueOf(m.group(3)));
            }
        }
        so("there are calls", !calls.isEmpty());
        row("", String.join(";", calls), answers.stream().mapToLong(Long::longValue).toArray());
    }

    /** A sign told as 'e' is its number. */
    private static String words(String call, String args) {
        StringBuilder all = new StringBuilder(call);
        for (String arg : args.isEmpty() ? new String[0] : args.split(", ")) {
            all.append(' ').append(arg.startsWith("'") ? String.valueOf((int) arg.charAt(1)) : arg);
        }
        return all.toString();
    }

    public static void main(String[] args) throws IOException {
        ReadmeTest test = new ReadmeTest();
        String readme = Files.readString(README);
        int from = readme.indexOf("```java\n");
        int to = readme.indexOf("```", from + 1);
        test.so("README has an example", from >= 0 && to > from);
        if (from >= 0 && to > from) {
            test.example(readme.substring(from, to));
        }
        test.end();
    }
}
