import java.io.IOException;
import java.nio.file.DirectoryStream;
import java.nio.file.Files;
import java.nio.file.Path;
import java.util.ArrayList;
import java.util.List;
import java.util.Set;
import java.util.TreeSet;
import java.util.regex.Matcher;
import java.util.regex.Pattern;

/** README.md holds: its example answers what it says, and it names the tests that are there. */
public final class ReadmeTest {
    private static final Path README = Path.of("README.md");
    private static final Path TESTS = Path.of("src", "test", "java");

    public static void main(String[] args) throws IOException {
        String readme = Files.readString(README);
        theExample(exampleOf(readme));
        theTestsThatAreThere(readme);
        Check.end();
    }

    /** The lines of the one block of Java. */
    private static List<String> exampleOf(String readme) {
        List<String> lines = new ArrayList<>();
        boolean inside = false;
        for (String line : readme.split("\n")) {
            if (line.equals("```")) {
                inside = false;
            }
            if (inside) {
                lines.add(line);
            }
            if (line.equals("```java")) {
                inside = true;
            }
        }
        return lines;
    }

    private static void theExample(List<String> lines) {
        Example example = new Example(lines);
        ScopeTree tree = new ScopeTree();
        example.next("ScopeTree tree = new ScopeTree();");
        example.answers("tree.file(0, 8, 1, 3);", tree.file(0, 8, 1, 3));
        example.answers("tree.descriptor(0, 5, 8);", tree.descriptor(0, 5, 8));
        int scope = tree.child(0);
        example.answers("int scope = tree.child(0);", scope);
        example.answers("tree.add(scope, 0, true);", tree.add(scope, 0, true));
        tree.filter(scope, 0b10, 0L, 0L);
        example.next("tree.filter(scope, 0b10, 0L, 0L);");
        int local = tree.lock(scope);
        example.answers("int local = tree.lock(scope);", local);
        example.answers("tree.loader(scope, true);", tree.loader(scope, true));
        int type = tree.load(scope, 8);
        example.answers("int type = tree.load(scope, 8);", type);
        example.answers("tree.info(type, 2);", tree.info(type, 2));
        example.answers("tree.isA(type, 1);", tree.isA(type, 1));
        example.answers("tree.apply(scope, 5);", tree.apply(scope, 5));
        example.answers("tree.applied(scope, 0);", tree.applied(scope, 0));
        example.answers("tree.look(local, 2);", tree.look(local, 2));
        example.answers("tree.release(scope);", tree.release(scope));
        example.answers("tree.info(type, 1);", tree.info(type, 1));
        example.end();
    }

    private static void theTestsThatAreThere(String readme) throws IOException {
        Set<String> named = new TreeSet<>();
        Matcher word = Pattern.compile("\\b[A-Z][A-Za-z]*Test\\b").matcher(readme);
        while (word.find()) {
            named.add(word.group());
        }
        Set<String> there = new TreeSet<>();
        try (DirectoryStream<Path> files = Files.newDirectoryStream(TESTS, "*Test.java")) {
            for (Path file : files) {
                there.add(file.getFileName().toString().replace(".java", ""));
            }
        }
        Check.yes("README.md names " + named + ", there are " + there, named.equals(there));
    }

    /** The example's lines in their order: a call, and behind // what it answers, up to a colon. */
    private static final class Example {
        private final List<String> lines;
        private int at;

        Example(List<String> lines) {
            this.lines = lines;
        }

        String next(String call) {
            String line = at < lines.size() ? lines.get(at) : "";
            at++;
            Check.yes("README.md has " + call + " where the test has it: " + line, line.startsWith(call));
            return line;
        }

        void answers(String call, Object got) {
            String line = next(call);
            Check.yes(call + " answered " + got + ": " + line,
                    line.matches(".*; +// " + Pattern.quote(got.toString()) + ": .*"));
        }

        void end() {
            Check.is("lines of the example", lines.size(), at);
        }
    }
}
