import java.io.IOException;
import java.nio.file.DirectoryStream;
import java.nio.file.Files;
import java.nio.file.Path;
import java.util.LinkedHashSet;
import java.util.List;
import java.util.Set;
import java.util.TreeSet;

/**
 * The document sentence by sentence: the files under src/test/edges hold each of its sentences, with the calls that
 * would answer otherwise if it were broken. A line of such a file is one of these:
 *
 * <pre>
 * # a section of the document
 * > a sentence of it: the calls that follow are its test, on an object of their own
 * ~ a sentence of it that names nothing to test
 * --                       the sentence goes on with another object
 * call                     must not throw
 * call = answer            each call that this stands for answers so, or with the answers one after the other
 * 8 * call = answer        and so on each time
 * </pre>
 */
public final class EdgesTest {
    private static final Path PLACE = Path.of("src/test/edges");

    private final Set<String> told = new LinkedHashSet<>();
    private String section = "";
    private String sentence = "";
    private Script script = new Script();
    private boolean isTested = true;
    private int passed = 0;
    private int failed = 0;

    public static void main(String[] args) throws IOException {
        EdgesTest test = new EdgesTest();
        Set<Path> files = new TreeSet<>();
        try (DirectoryStream<Path> found = Files.newDirectoryStream(PLACE, "*.txt")) {
            found.forEach(files::add);
        }
        for (Path file : files) {
            for (String line : Files.readAllLines(file)) {
                test.readLine(line.trim());
            }
            test.endSentence();
        }
        test.compareWithDocument();
        System.out.println("EdgesTest: " + test.told.size() + " sentences, " + test.passed + " checks passed, "
                + test.failed + " failed");
        System.exit(test.failed > 0 || test.passed == 0 ? 1 : 0);
    }

    private void readLine(String line) {
        if (line.isEmpty()) {
            return;
        }
        String rest = line.length() > 2 ? line.substring(2) : "";
        if (line.startsWith("# ")) {
            endSentence();
            section = rest;
        } else if (line.startsWith("~ ")) {
            endSentence();
            tell(rest);
        } else if (line.startsWith("> ")) {
            endSentence();
            tell(rest);
            sentence = rest;
            isTested = false;
            script = new Script();
        } else if (line.equals("--")) {
            script = new Script();
        } else {
            checkCall(line);
        }
    }

    private void tell(String text) {
        if (!told.add(section + " > " + text)) {
            fail("is told twice", text);
        }
    }

    private void endSentence() {
        if (!isTested) {
            fail("has no test", sentence);
        }
        isTested = true;
    }

    private void compareWithDocument() throws IOException {
        Set<String> missing = new LinkedHashSet<>(new Document().all());
        Set<String> strange = new LinkedHashSet<>(told);
        strange.removeAll(missing);
        missing.removeAll(told);
        missing.forEach(text -> fail("stands in the document, but not under " + PLACE, text));
        strange.forEach(text -> fail("stands under " + PLACE + ", but not in the document", text));
    }

    private void checkCall(String line) {
        String[] sides = line.split(" = ", 2);
        String[] parts = sides[0].split(" \\* ", 2);
        int times = parts.length > 1 ? Integer.parseInt(parts[0]) : 1;
        isTested = isTested || sides.length > 1;
        boolean isRight = true;
        for (int time = 0; time < times && isRight; time++) {
            List<String> got = script.answers(parts[parts.length - 1]);
            isRight = sides.length > 1 ? isDue(sides[1], got) : got.stream().noneMatch(EdgesTest::isException);
            check(line, isRight, got);
        }
    }

    private static boolean isException(String answer) {
        return answer.endsWith("Exception");
    }

    private static boolean isDue(String due, List<String> got) {
        return String.join(" ", got).equals(due) || got.stream().allMatch(due::equals);
    }

    private void check(String line, boolean isRight, List<String> got) {
        if (isRight) {
            passed++;
        } else {
            fail(line + ": answered " + String.join(" ", got), sentence);
        }
    }

    private void fail(String what, String text) {
        failed++;
        System.out.println("EdgesTest: " + section + " > " + text + "\n    " + what);
    }
}
