import java.io.IOException;
import java.nio.charset.StandardCharsets;
import java.nio.file.Files;
import java.nio.file.Path;
import java.util.ArrayList;
import java.util.List;

/** The written texts that tests look into; paths are those from the project's own directory. */
final class Texts {
    static final Path DOCUMENT = Path.of("../shared/DOC.md");
    static final Path LANGUAGE = Path.of("../shared/LANGUAGE.md");
    static final Path README = Path.of("README.md");
    static final Path CLASS = Path.of("src/main/java/MarketWeeks.java");

    private Texts() {
    }

    /** What is written there; a file that can't be read is a fault, and counts as an empty one. */
    static String of(Path file) {
        try {
            return Files.readString(file, StandardCharsets.UTF_8);
        } catch (IOException e) {
            Check.fault("could not be read: " + file + ": " + e);
            return "";
        }
    }

    /** The lines of each block of Java in a text with marks. */
    static List<List<String>> javaBlocks(String text) {
        List<List<String>> blocks = new ArrayList<>();
        boolean isInside = false;
        for (String line : text.split("\\R")) {
            if (line.equals("```java")) {
                isInside = true;
                blocks.add(new ArrayList<>());
            } else if (line.equals("```")) {
                isInside = false;
            } else if (isInside) {
                blocks.get(blocks.size() - 1).add(line);
            }
        }
        return blocks;
    }
}
