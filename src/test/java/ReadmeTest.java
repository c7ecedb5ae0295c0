import java.io.IOException;
import java.lang.reflect.Method;
import java.lang.reflect.Modifier;
import java.nio.file.Files;
import java.nio.file.Path;
import java.util.ArrayList;
import java.util.List;
import java.util.Set;
import java.util.TreeSet;
import java.util.regex.Matcher;
import java.util.regex.Pattern;
import java.util.stream.Stream;

/** What README.md shows is so: the calls and their answers, the files, the tests, the command. */
public final class ReadmeTest {
    private static final Pattern NAMED = Pattern.compile("`([^`\\n]+)`");
    private static final Path TESTS = Path.of("src/test/java");

    private ReadmeTest() {
    }

    public static void main(String[] args) throws IOException {
        String readme = Texts.of(Texts.README);
        answers(readme);
        eachMethod(readme);
        files(readme);
        tests(readme);
        CommandTrial.look(command(readme));
        Check.end();
    }

    private static void answers(String readme) throws IOException {
        Check.about("the calls that README.md shows");
        for (List<String> block : Texts.javaBlocks(readme)) {
            Example example = new Example(block);
            Check.same("its calls", example.failure(), "");
            for (int i = 0; i < example.size(); i++) {
                Check.same(example.line(i), example.answer(i), example.due(i));
            }
        }
    }

    private static void eachMethod(String readme) {
        Check.about("the methods that README.md shows");
        StringBuilder shown = new StringBuilder();
        for (List<String> block : Texts.javaBlocks(readme)) {
            shown.append(String.join("\n", block)).append('\n');
        }
        for (Method method : MarketWeeks.class.getDeclaredMethods()) {
            if (Modifier.isPublic(method.getModifiers())) {
                String call = "weeks." + method.getName() + "(";
                Check.is("there is " + call, () -> shown.indexOf(call) >= 0, true);
            }
        }
        for (Class<?> refusal : new Class<?>[] {IllegalArgumentException.class,
                IllegalStateException.class, IndexOutOfBoundsException.class}) {
            String answer = "// throws " + refusal.getSimpleName();
            Check.is("there is " + answer, () -> shown.indexOf(answer) >= 0, true);
        }
    }

    private static void files(String readme) {
        Check.about("the files that README.md names");
        for (String name : named(readme)) {
            if (name.contains("/") && !name.contains("*")) {
                Check.is("there is " + name, () -> Files.exists(Path.of(name)), true);
            }
        }
    }

    private static void tests(String readme) throws IOException {
        Check.about("the tests that README.md names");
        Set<String> named = new TreeSet<>(named(readme));
        named.removeIf(name -> !name.matches("\\w+Test"));
        Set<String> there = new TreeSet<>();
        try (Stream<Path> files = Files.list(TESTS)) {
            for (Path file : files.toArray(Path[]::new)) {
                String name = file.getFileName().toString();
                if (name.endsWith("Test.java")) {
                    there.add(name.substring(0, name.length() - ".java".length()));
                }
            }
        }
        Check.same("tests", named.toString(), there.toString());
        for (String name : named(readme)) {
            if (name.matches("[A-Z][a-z]+")) {
                Check.is("there is " + name, () -> Files.exists(TESTS.resolve(name + ".java")), true);
            }
        }
    }

    private static List<String> named(String readme) {
        List<String> names = new ArrayList<>();
        Matcher matcher = NAMED.matcher(readme);
        while (matcher.find()) {
            names.add(matcher.group(1));
        }
        return names;
    }

    /** The line that is shown under "How to run the tests". */
    private static String command(String readme) {
        Matcher matcher = Pattern.compile("## How to run the tests\\R\\R {4}(.+)\\R").matcher(readme);
        boolean isShown = matcher.find();
        Check.is("README.md shows a command", () -> isShown, true);
        return isShown ? matcher.group(1) : "false";
    }
}
