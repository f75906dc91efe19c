import java.io.ByteArrayOutputStream;
import java.io.IOException;
import java.io.PrintStream;
import java.lang.reflect.Method;
import java.lang.reflect.Modifier;
import java.nio.charset.StandardCharsets;
import java.nio.file.Files;
import java.nio.file.Path;
import java.util.Set;
import java.util.TreeSet;
import java.util.regex.Matcher;
import java.util.regex.Pattern;
import java.util.stream.Stream;

/** What README.md says is so: its example, its list of calls, its list of tests. */
public final class ReadmeTest {
    private static final Path TESTS = Path.of("src/test/java");
    private static int wrong;

    public static void main(String[] args) throws IOException {
        String readme = Files.readString(Path.of("README.md"));
        check("the example is ReadmeExample.java",
            block(readme, "java").equals(Files.readString(TESTS.resolve("ReadmeExample.java"))));
        String printed = printedByExample();
        check("the example prints what is told, but it prints\n" + printed, block(readme, "text").equals(printed));
        check("every call is named, and no other one", named(readme, "`([a-zA-Z]+)\\(").equals(calls()));
        check("every test is named, and no other one", named(readme, "`([a-zA-Z]+Test)`").equals(tests()));
        System.out.println(wrong == 0 ? "README.md is so" : wrong + " sayings of README.md are not so");
        if (wrong != 0) {
            System.exit(1);
        }
    }

    private static void check(String saying, boolean isSo) {
        if (!isSo) {
            wrong++;
            System.out.println("README.md, not so: " + saying);
        }
    }

    /** The text of the first block of a kind. */
    private static String block(String readme, String kind) {
        Matcher found = Pattern.compile("```" + kind + "\\n(.*?)```", Pattern.DOTALL).matcher(readme);
        return found.find() ? found.group(1) : "";
    }

    private static String printedByExample() {
        PrintStream out = System.out;
        ByteArrayOutputStream bytes = new ByteArrayOutputStream();
        System.setOut(new PrintStream(bytes, true, StandardCharsets.UTF_8));
        ReadmeExample.main(new String[0]);
        System.setOut(out);
        return bytes.toString(StandardCharsets.UTF_8).replace(System.lineSeparator(), "\n");
    }

    private static Set<String> named(String readme, String pattern) {
        Set<String> names = new TreeSet<>();
        Matcher found = Pattern.compile(pattern).matcher(readme);
        while (found.find()) {
            names.add(found.group(1));
        }
        return names;
    }

    private static Set<String> calls() {
        Set<String> names = new TreeSet<>();
        for (Method method : LeafWorlds.class.getDeclaredMethods()) {
            if (Modifier.isPublic(method.getModifiers())) {
                names.add(method.getName());
            }
        }
        return names;
    }

    private static Set<String> tests() throws IOException {
        Set<String> names = new TreeSet<>();
        try (Stream<Path> files = Files.list(TESTS)) {
            files.map(file -> file.getFileName().toString()).filter(name -> name.endsWith("Test.java"))
                .forEach(name -> names.add(name.replace(".java", "")));
        }
        return names;
    }
}
