import java.util.LinkedHashSet;
import java.util.Set;

/**
 * The sentences of the document, each held by tests of its own, and the look whether none is
 * without tests.
 */
final class Sentences {
    private static final Set<String> held = new LinkedHashSet<>();
    private static String heading = "";

    private Sentences() {
    }

    /** The sentences that come now stand under this heading of the document. */
    static void under(String words) {
        heading = words;
    }

    /** The tests that come now, up to the next sentence, hold this one. */
    static void hold(String words) {
        String sentence = heading + " | " + words;
        if (!held.add(sentence)) {
            Check.fault("named twice: " + sentence);
        }
        Check.about(sentence);
    }

    /** Looks whether the tests name the sentences that the document has, and no others. */
    static void end() {
        Check.about("the sentences of the document");
        Set<String> written = written();
        for (String sentence : written) {
            Check.is("a test names: " + sentence, () -> held.contains(sentence), true);
        }
        for (String sentence : held) {
            Check.is("the document says: " + sentence, () -> written.contains(sentence), true);
        }
        System.out.println(held.size() + " sentences held");
    }

    private static Set<String> written() {
        Set<String> sentences = new LinkedHashSet<>();
        String under = "";
        for (String line : lines()) {
            if (line.startsWith("#")) {
                under = line.replaceFirst("#+ ", "");
            } else if (under.startsWith("Promise ") && !line.isEmpty()) {
                // the first line begins with the call, which FaceTest looks at
                sentences.add(under + " | " + line.replaceFirst("^`.*`: ", ""));
            } else if (isOfTerms(under) && !line.isEmpty()) {
                for (String sentence : line.split("(?<=\\.) ")) {
                    sentences.add(under + " | " + sentence);
                }
            }
        }
        return sentences;
    }

    private static boolean isOfTerms(String heading) {
        return heading.equals("What it is") || heading.equals("Terms") || heading.equals("Markets")
                || heading.equals("Moon") || heading.equals("Year");
    }

    /** The document's lines, without those that name no more than the order of the calls. */
    private static String[] lines() {
        return Texts.of(Texts.DOCUMENT).replaceAll("(?m)^Ahead of the calls .*$", "").split("\\R");
    }
}
