import java.io.ByteArrayOutputStream;
import java.io.PrintStream;
import java.lang.reflect.Method;
import java.lang.reflect.Modifier;
import java.nio.file.Files;
import java.nio.file.Path;
import java.util.ArrayList;
import java.util.List;
import java.util.regex.Matcher;
import java.util.regex.Pattern;
import java.util.stream.Stream;

/** README.md: what it shows is Use.java, which answers as is said there; it tells of every call and of every test. */
public final class ReadmeTest {
    private static final Path TESTS = Path.of("src/test/java");

    public static void main(String[] args) throws Exception {
        String readme = Files.readString(Path.of("README.md"));
        String use = Files.readString(TESTS.resolve("Use.java"));
        shown(readme, use);
        answers(use);
        calls(readme, use);
        files(readme);
        Check.end();
    }

    private static void shown(String readme, String use) {
        List<String> blocks = found(readme, "(?s)```java\n(.*?)```");
        Check.due("blocks of Java in README.md", blocks.size(), 1);
        Check.due("README.md shows Use.java as it is", blocks.contains(use), true);
    }

    /** Each line that prints tells behind // what it prints, perhaps with more behind that. */
    private static void answers(String use) throws Exception {
        List<String> told = found(use, "System\\.out\\.println\\([^\n]*?\\); +// ([^\n]*)");
        Check.due("lines that print tell their answers", told.size(), found(use, "(System\\.out\\.println)").size());
        String[] lines = printed().split("\\R");
        Check.due("lines that Use prints", lines.length, told.size());
        for (int i = 0; i < lines.length && i < told.size(); i++) {
            String line = Pattern.quote(lines[i]) + "([,: ].*)?";
            Check.due("Use prints " + lines[i] + " where it tells: " + told.get(i), told.get(i).matches(line), true);
        }
    }

    private static String printed() throws Exception {
        PrintStream screen = System.out;
        ByteArrayOutputStream bytes = new ByteArrayOutputStream();
        try (PrintStream caught = new PrintStream(bytes, true, "UTF-8")) {
            System.setOut(caught);
            Use.main(new String[0]);
        } finally {
            System.setOut(screen);
        }
        return bytes.toString("UTF-8");
    }

    private static void calls(String readme, String use) {
        for (Method m : PoundsOver.class.getDeclaredMethods()) {
            if (Modifier.isPublic(m.getModifiers())) {
                Check.due("Use calls " + m.getName(), use.contains("x." + m.getName() + "("), true);
                Check.due("README.md tells of " + m.getName(), readme.contains("`" + m.getName() + "("), true);
            }
        }
    }

    private static void files(String readme) throws Exception {
        for (String file : found(readme, "`((?:\\.\\./)?(?:src|shared|\\.ci)/[^`\\s*]*)`")) {
            Check.due("README.md names " + file + ", which is there", Files.exists(Path.of(file)), true);
        }
        try (Stream<Path> all = Files.list(TESTS)) {
            for (Path test : all.toList()) {
                String name = test.getFileName().toString().replace(".java", "");
                Check.due("README.md tells of " + name, readme.contains("`" + name + "`"), true);
            }
        }
    }

    private static List<String> found(String text, String pattern) {
        List<String> all = new ArrayList<>();
        Matcher m = Pattern.compile(pattern).matcher(text);
        while (m.find()) {
            all.add(m.group(1));
        }
        return all;
    }
}
