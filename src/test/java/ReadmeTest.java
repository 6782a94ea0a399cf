import java.io.IOException;
import java.lang.reflect.Method;
import java.nio.file.Files;
import java.nio.file.Path;
import java.util.Arrays;
import java.util.regex.Matcher;
import java.util.regex.Pattern;

/**
 * The examples of README.md, line by line: each call answers, and leaves the ROW, as the remark behind it says.
 * Runs in the project's folder.
 */
public final class ReadmeTest {
    private static final Pattern TELL = Pattern.compile("tell\\(x, \"([^\"]*)\"\\);.*");
    private static final Pattern CALL =
            Pattern.compile("x\\.(\\w+)\\(([-0-9, ]*)\\); +// (-?\\d+|true|false)(?:, row((?: -?\\d+)+))?(?::.*)?");
    private static final int LEAST_CALLS = 25;

    private static int calls;
    private static int wrong;

    private ReadmeTest() {
    }

    private static void due(String line, String got, String want) {
        if (!got.equals(want)) {
            wrong++;
            System.out.println("README.md, " + line + ": " + got + ", due is " + want);
        }
    }

    private static String row(SoundAdvice x) {
        StringBuilder all = new StringBuilder();
        for (int i = 0; i < x.count(8); i++) {
            all.append(' ').append(x.row(i));
        }
        return all.toString();
    }

    private static Method named(String name) {
        return Arrays.stream(SoundAdvice.class.getMethods()).filter(m -> m.getName().equals(name)).findFirst()
                .orElseThrow(() -> new IllegalStateException("README.md has a call that is none: " + name));
    }

    private static void call(SoundAdvice x, String line, Matcher parts) throws ReflectiveOperationException {
        String listed = parts.group(2).trim();
        Object[] arguments = listed.isEmpty() ? new Object[0]
                : Arrays.stream(listed.split(", *")).map(Integer::valueOf).toArray();
        String rowAhead = row(x);
        String answer = String.valueOf(named(parts.group(1)).invoke(x, arguments));
        calls++;
        due(line, answer, parts.group(3));
        due(line + " (row)", row(x), parts.group(4) == null ? rowAhead : parts.group(4));
    }

    public static void main(String[] args) throws IOException, ReflectiveOperationException {
        Watch.begin();
        SoundAdvice x = new SoundAdvice();
        for (String line : Files.readAllLines(Path.of("README.md"))) {
            Matcher told = TELL.matcher(line);
            Matcher call = CALL.matcher(line);
            if (told.matches()) {
                Signs.tell(x, told.group(1));
            } else if (call.matches()) {
                call(x, line, call);
            } else if (line.startsWith("x.")) {
                due(line, "an example that can't be read", "a call with its answer");
            }
        }
        due("calls", calls < LEAST_CALLS ? "only " + calls : "enough", "enough");
        System.out.println(calls + " examples of README.md, " + wrong + " wrong");
        if (wrong != 0) {
            System.exit(1);
        }
    }
}
