import java.io.IOException;
import java.nio.file.Files;
import java.nio.file.Path;
import java.util.Arrays;
import java.util.List;
import java.util.Map;

/**
 * Each sentence of the document with tests of its own: just inside what it bounds, just outside, and what a
 * refused call leaves as it was. The parts quote the sentence ahead of its tests; here the quotes are held
 * against the document, so that no sentence of a promise or of the terms is left out. Runs in the project's
 * folder.
 */
public final class BoundariesTest {
    private static final Path DOCUMENT = Path.of("../shared/DOC.md");
    private static final int PROMISES = 42;

    private BoundariesTest() {
    }

    private static String plain(String text) {
        return text.replace("```text", " ").replace("```", " ").replaceAll("\\s+", " ");
    }

    private static String between(String document, String from, String to) {
        int begin = document.indexOf(from);
        int end = to.isEmpty() ? document.length() : document.indexOf(to, Math.max(0, begin));
        if (begin < 0 || end < 0) {
            Bench.fail("the document has no " + from);
            return "";
        }
        return document.substring(begin + from.length(), end);
    }

    /** What a promise says behind the face of its call, by its number. */
    private static String promise(String document, int number) {
        String next = number < PROMISES ? "## Promise " + (number + 1) + ":" : "## Not promised";
        String section = between(document, "## Promise " + number + ":", next);
        return section.substring(section.indexOf("`:") + 2);
    }

    /** Takes the sentences out of what is said; all that is left are signs between them. */
    private static void covered(int number, String said, List<String> sentences) {
        char[] rest = said.toCharArray();
        for (String sentence : sentences) {
            int at = said.indexOf(sentence);
            if (at < 0) {
                Bench.fail("the document does not say in " + number + ": " + sentence);
            } else {
                Arrays.fill(rest, at, at + sentence.length(), '|');
            }
        }
        for (String left : new String(rest).split("\\|+")) {
            if (left.matches(".*[A-Za-z].*")) {
                Bench.fail("no test is of what the document says in " + number + ": " + left);
            }
        }
    }

    private static void document() throws IOException {
        String document = plain(Files.readString(DOCUMENT));
        Map<Integer, List<String>> sentences = Bench.sentences();
        for (int number = 1; number <= PROMISES; number++) {
            covered(number, promise(document, number), sentences.getOrDefault(number, List.of()));
        }
        String terms = between(document, "## Terms 1. ", "Ahead of the calls `sign`").replace(" 2. ROW:", " ROW:");
        String ahead = between(document, "and games that are drawn. ", "## The public face");
        String lists = between(document, "`beyond` the interface says: ", "Ahead of the calls `play`");
        covered(Bench.TERMS, ahead + " " + terms + " " + lists, sentences.get(Bench.TERMS));
    }

    public static void main(String[] args) throws IOException {
        Watch.begin();
        TermsPart.run();
        TextsPart.run();
        QuestionsPart.run();
        ListsPart.run();
        PlayPart.run();
        ChangesPart.run();
        KeptPart.run();
        Bench.closeSentence();
        int many = Bench.sentences().values().stream().mapToInt(List::size).sum();
        if (Files.exists(DOCUMENT)) {
            document();
        } else {
            System.out.println("there is no " + DOCUMENT + " to hold the sentences against");
        }
        System.out.println(many + " sentences, " + Bench.checks() + " checks, " + Bench.wrong() + " wrong");
        if (Bench.wrong() != 0) {
            System.exit(1);
        }
    }
}
