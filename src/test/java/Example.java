import java.io.IOException;
import java.net.URL;
import java.net.URLClassLoader;
import java.util.ArrayList;
import java.util.List;
import java.util.function.Supplier;
import java.util.regex.Matcher;
import java.util.regex.Pattern;
import javax.tools.JavaCompiler;
import javax.tools.ToolProvider;

/**
 * A block of calls as README.md shows it, compiled and run as it stands. Behind a call, in a comment,
 * stands what it answers, or "throws" and what it throws, and words behind a colon.
 */
final class Example {
    private static final Pattern LINE = Pattern.compile("(?:int (\\w+) = )?([^;]+);(?: +// ([^:]+)(?:: .*)?)?");

    private final List<String> lines = new ArrayList<>();
    private final List<String> due = new ArrayList<>();
    private final List<String> answers = new ArrayList<>();
    private final StringBuilder source = new StringBuilder();
    private String failure = "";

    Example(List<String> block) throws IOException {
        source.append("import java.util.*;\n"
                + "public final class Shown implements java.util.function.Supplier<List<String>> {\n"
                + "static String outcome(java.util.function.Supplier<Object> call) {\n"
                + "try { return String.valueOf(call.get()); }\n"
                + "catch (RuntimeException e) { return \"throws \" + e.getClass().getSimpleName(); } }\n"
                + "public List<String> get() {\nList<String> answers = new ArrayList<>();\n");
        for (String line : block) {
            if (!line.isEmpty() && !line.startsWith("//")) {
                add(line);
            }
        }
        source.append("return answers;\n}\n}\n");
        run();
    }

    private void add(String line) {
        Matcher parts = LINE.matcher(line);
        if (!parts.matches()) {
            failure = "not a call with its answer: " + line;
            return;
        }
        String name = parts.group(1);
        String call = parts.group(2);
        if (call.startsWith("weeks.set") || call.equals("MarketWeeks weeks = new MarketWeeks()")) {
            source.append(call).append(";\n");
            return;
        }
        lines.add(line);
        due.add(parts.group(3) == null ? "an answer" : parts.group(3));
        if (name == null) {
            source.append("answers.add(outcome(() -> ").append(call).append("));\n");
        } else {
            source.append("int ").append(name).append(" = ").append(call).append(";\n");
            source.append("answers.add(String.valueOf(").append(name).append("));\n");
        }
    }

    private void run() throws IOException {
        JavaCompiler compiler = ToolProvider.getSystemJavaCompiler();
        try (TrialDirectory trial = new TrialDirectory()) {
            trial.write("Shown.java", source.toString());
            String directory = trial.path.toString();
            int refused = compiler.run(null, null, null, "-d", directory, "-cp",
                    System.getProperty("java.class.path"), trial.path.resolve("Shown.java").toString());
            if (refused != 0) {
                failure = "does not compile:\n" + source;
                return;
            }
            try (URLClassLoader loader = new URLClassLoader(new URL[] {trial.path.toUri().toURL()})) {
                @SuppressWarnings("unchecked")
                Supplier<List<String>> shown =
                        (Supplier<List<String>>) loader.loadClass("Shown").getConstructor().newInstance();
                answers.addAll(shown.get());
            } catch (ReflectiveOperationException | RuntimeException e) {
                failure = "ended with " + e;
            }
        }
    }

    /** Why the block could not be run to its end, or an empty text. */
    String failure() {
        return failure;
    }

    int size() {
        return lines.size();
    }

    String line(int i) {
        return lines.get(i);
    }

    String answer(int i) {
        return i < answers.size() ? answers.get(i) : "none";
    }

    String due(int i) {
        return due.get(i);
    }
}
