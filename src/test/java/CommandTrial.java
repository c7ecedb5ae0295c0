import java.io.IOException;
import java.nio.charset.StandardCharsets;
import java.nio.file.Files;
import java.nio.file.Path;
import java.nio.file.StandardCopyOption;

/**
 * The command that runs the tests, tried on a small project: it must run every test of the project
 * and every shared one, and end with another exit code than 0 if one of them fails.
 */
final class CommandTrial {
    private static final String[] COPIED = {".ci/run", "src/main/java/MarketWeeks.java", "src/test/java/Check.java"};

    private final TrialDirectory trial;
    private final String command;

    private CommandTrial(TrialDirectory trial, String command) {
        this.trial = trial;
        this.command = command;
    }

    static void look(String command) throws IOException {
        Check.about("the command that README.md shows: " + command);
        try (TrialDirectory directory = new TrialDirectory()) {
            CommandTrial trial = new CommandTrial(directory, command);
            trial.begin();
            trial.runsEach();
            trial.endsOtherwise("project/src/test/java/FailsTest.java", test("FailsTest", "System.exit(1);"));
            trial.endsOtherwise("project/src/test/java/ThrowsTest.java",
                    test("ThrowsTest", "throw new IllegalStateException();"));
            trial.endsOtherwise("project/src/test/java/Wrong.java", "no class");
            trial.endsOtherwise("shared/tests/Fails.java", test("Fails", "System.exit(1);"));
            trial.endsOtherwise("shared/tests/Wrong.java", "no class");
            trial.endsOtherwise("project/src/main/java/MarketWeeks.java", "no class");
            directory.remove("shared");
            trial.ends("without shared tests", false);
        }
    }

    private static String test(String name, String last) {
        return "public final class " + name + " {\n  public static void main(String[] args) {\n"
                + "    System.out.println(\"" + name + " knows \" + new MarketWeeks().markets());\n"
                + "    " + last + "\n  }\n}\n";
    }

    private void begin() throws IOException {
        for (String name : COPIED) {
            Path to = trial.path.resolve("project").resolve(name);
            Files.createDirectories(to.getParent());
            Files.copy(Path.of(name), to, StandardCopyOption.COPY_ATTRIBUTES);
        }
        trial.write("project/src/test/java/OneTest.java", test("OneTest", ""));
        trial.write("project/src/test/java/TwoTest.java", test("TwoTest", "Check.end();"));
        trial.write("shared/tests/First.java", test("First", ""));
        trial.write("shared/tests/Second.java", test("Second", ""));
    }

    private void runsEach() throws IOException {
        String output = ends("with tests that hold", true);
        for (String name : new String[] {"OneTest", "TwoTest", "First", "Second"}) {
            Check.is("it runs " + name, () -> output.contains(name + " knows 0"), true);
        }
    }

    /** With this text in the file it ends with another exit code than 0. */
    private void endsOtherwise(String name, String text) throws IOException {
        Path file = trial.path.resolve(name);
        String before = Files.exists(file) ? Files.readString(file) : null;
        trial.write(name, text);
        ends("with another " + name, false);
        if (before == null) {
            Files.delete(file);
        } else {
            trial.write(name, before);
        }
    }

    private String ends(String how, boolean isWell) throws IOException {
        Process process = new ProcessBuilder("sh", "-c", command).redirectErrorStream(true)
                .directory(trial.path.resolve("project").toFile()).start();
        process.getOutputStream().close();
        String output = new String(process.getInputStream().readAllBytes(), StandardCharsets.UTF_8);
        int code = codeOf(process);
        Check.is(how + " it ends with 0, having said:\n" + output + "\nthis", () -> code == 0, isWell);
        return output;
    }

    private static int codeOf(Process process) {
        try {
            return process.waitFor();
        } catch (InterruptedException e) {
            process.destroy();
            return -1;
        }
    }
}
