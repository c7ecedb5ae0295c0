import java.io.IOException;
import java.util.ArrayList;
import java.util.List;
import java.util.regex.Matcher;
import java.util.regex.Pattern;

/**
 * The class keeps to the rules of LANGUAGE.md; and so that this is more than said, small classes that
 * break one rule each are found out.
 */
public final class LanguageTest {
    /** How each rule begins; FaceTest looks at the face of rule 1, and rule 13 follows from rule 4. */
    private static final String[] RULES = {
        "The face", "Classes inside", "Types", "The library", "Static fields are final", "Exceptions",
        "No call may ever throw by itself", "Recursion", "Every loop has an end", "if, else, for",
        "A method takes at most seven parameters", "An object may be made by any method",
        "No clock, no randomness",
    };

    private LanguageTest() {
    }

    public static void main(String[] args) throws IOException {
        rules();
        theClass();
        whatIsLeft();
        whatIsNot();
        Check.end();
    }

    private static void rules() {
        Check.about("the rules that LANGUAGE.md has");
        List<String> written = new ArrayList<>();
        Matcher matcher = Pattern.compile("(?m)^(\\d+)\\. (.*)$").matcher(Texts.of(Texts.LANGUAGE));
        while (matcher.find()) {
            int number = Integer.parseInt(matcher.group(1));
            written.add(matcher.group(2));
            Check.gives("the number of rule " + number, written::size, number);
        }
        Check.gives("rules", written::size, RULES.length);
        for (int i = 0; i < RULES.length && i < written.size(); i++) {
            String rule = written.get(i);
            String due = RULES[i];
            Check.is("rule " + (i + 1) + " begins with: " + due, () -> rule.startsWith(due), true);
        }
    }

    private static void theClass() throws IOException {
        Check.about("the class");
        Check.same("faults", String.join("\n", LanguageRules.faults(Texts.of(Texts.CLASS))), "");
    }

    private static void whatIsLeft() throws IOException {
        Check.about("classes that keep to the rules");
        keeps("");
        keeps("private int n = 0; int next() { n++; return n; }");
        keeps("private int f(int n) { int sum = 0; for (int i = 0; i < n; i++) { sum += i; } return sum / 2; }");
        keeps("private int f(int n) { return n > 0 ? Math.floorMod(5, n) : 0; }");
        keeps("private int f(int n) { if (n > 0) { return 5 % n; } return 0; }");
        keeps("private static final int[] ROW = {1, 2}; private static final String WORD = \"a word\";");
        keeps("private void f(int n) { if (n < 0) { throw new IllegalStateException(\"a text\"); } }");
        keeps("private static class Stall { private int place = 0; } private final Stall stall = new Stall();");
        keeps("private final int[] row = new int[3]; private boolean isPlace(int i) { return i >= 0 && i <"
                + " row.length; } private int f(int i) { return isPlace(i) ? row[i] : 0; }"
                + " private void g(int i) { if (!isPlace(i)) { return; } row[i] = 1; }");
    }

    private static void whatIsNot() throws IOException {
        Check.about("classes that break a rule");
        breaksInAll(1, "package p; public final class MarketWeeks { }");
        breaksInAll(1, "public final class MarketWeeks { } class Other { }");
        breaksInAll(1, "public class MarketWeeks { }");
        breaks(1, "public static class Stall { }");
        breaks(2, "interface Act { void go(); } private Act f() { return () -> { }; }");
        breaks(2, "interface Act { void go(); } private Act f() { return this::g; } private void g() { }");
        breaks(2, "private void f() { class Stall { } }");
        breaks(3, "private Object f(Object o) { return o; }");
        breaks(3, "private int[][][] f() { return null; }");
        breaks(3, "private String[][] f() { return null; }");
        breaks(3, "private final java.util.HashMap<Integer, Integer> f = null;");
        breaksInAll(4, "import java.util.HashMap; public final class MarketWeeks { }");
        breaks(4, "private String f(int n) { return String.valueOf(n); }");
        breaks(4, "private int f(int n) { return Math.addExact(n, 1); }");
        breaks(4, "private double f(double d) { return Math.sqrt(d); }");
        breaks(4, "private int f(String word) { return word.indexOf(\"a\") + word.hashCode(); }");
        breaks(4, "private static final String WORD = \"\\u00e9\";");
        breaks(4, "private long f() { return System.nanoTime(); }");
        breaks(4, "private double f() { return Math.random(); }");
        breaks(4, "private int f() { return new java.util.Random(1).nextInt(); }");
        breaks(5, "private static int n = 0;");
        breaks(5, "private static final StringBuilder TEXT = new StringBuilder();");
        breaks(5, "private static final int[] ROW = new int[3];");
        breaks(5, "static { }");
        breaks(6, "private void f() { throw new Error(); }");
        breaks(6, "private void f(String word) { throw new IllegalStateException(word); }");
        breaks(6, "private void f() { throw null; }");
        breaks(6, "public MarketWeeks(int n) { if (n < 0) { throw new IllegalArgumentException(); } }");
        breaks(6, "private void f() { try { g(); } finally { } } private void g() { }");
        breaks(6, "private void f() { try { g(); } catch (ArithmeticException e) { } } private void g() { }");
        breaks(6, "private void f() { synchronized (this) { } }");
        breaks(6, "private synchronized void f() { }");
        breaks(6, "private void f(int n) { assert n > 0; }");
        breaks(6, "private boolean f(String p, String q) { return p == q; }");
        breaks(6, "private boolean f(Integer p, Integer q) { return p != q; }");
        breaks(6, "public int hashCode() { return 1; }");
        breaks(7, "private int f(int n) { return 5 / n; }");
        breaks(7, "private int f(int n) { return 5 % 0; }");
        breaks(7, "private int f(int n) { n %= n; return n; }");
        breaks(7, "private long f(long n) { return Math.floorDiv(5, n); }");
        breaks(7, "private long f(long n, long m) { return m > 0 ? Math.floorMod(5, n) : 0; }");
        breaks(7, "private long f(long n) { return n > 0 ? 0 : Math.floorMod(5, n); }");
        breaks(7, "private int[] f(int n) { return new int[n]; }");
        breaks(7, "private final int[] row = new int[3]; private int f(int i) { return row[i]; }");
        breaks(7, "private final int[] row = new int[3]; private int f(int i) { return isPlace(i) ? row[i] : 0; }"
                + " private boolean isPlace(int i) { return i < row.length; }");
        breaks(7, "private final int[] row = new int[3]; private void f(int i) { if (!isPlace(i)) { row[i] = 1; } }"
                + " private boolean isPlace(int i) { return i >= 0 && i < row.length; }");
        breaks(7, "private final int[] row = new int[3]; private final int[] next = new int[2]; private int f(int i)"
                + " { return isPlace(i) ? next[i] : 0; }"
                + " private boolean isPlace(int i) { return i >= 0 && i < row.length; }");
        breaks(7, "private static class Stall { } private static class Shop extends Stall { }"
                + " private Shop f(Stall stall) { return (Shop) stall; }");
        breaks(8, "private int f(int n) { return n < 1 ? 0 : f(n - 1); }");
        breaks(8, "private void f() { g(); } private void g() { f(); }");
        breaks(9, "private void f(int n) { while (n > 0) { n--; } }");
        breaks(9, "private void f(int n) { do { n--; } while (n > 0); }");
        breaks(9, "private void f() { for (;;) { } }");
        breaks(9, "private void f(int n) { for (int i = 0; i < n; i++) { i--; } }");
        breaks(9, "private void f(int n) { for (int i = 0; i < n; i++) { n += 1; } }");
        breaks(9, "private void f(int n) { for (int i = 0; i != n; i++) { } }");
        breaks(9, "private void f(int n) { for (int i = 0; i < n; i--) { } }");
        breaks(10, "private String f(int n) { return \"a\" + n; }");
        breaks(10, "private String f(String word) { word += 1; return word; }");
        breaks(11, "private void f(int a, int b, int c, int d, int e, int g, int h, int i) { }");
        breaks(11, "private void f() { " + "\n".repeat(60) + " }");
        breaks(11, times(21, "private int n%1$d = 0; "));
        breaks(11, times(12, "private static class C%1$d { } "));
        breaks(11, times(9, "private void f%1$d() { f%2$d(); } ") + "private void f9() { }");
        breaks(12, "private void f(int n) { for (int i = 0; i < n; i++) { new StringBuilder(); } }");
        breaks(12, "private void f(int n) { int[] row; for (int i = 0; i < n; i++) { row = new int[2]; } }");
    }

    private static String times(int many, String form) {
        StringBuilder text = new StringBuilder();
        for (int i = 0; i < many; i++) {
            text.append(String.format(form, i, i + 1));
        }
        return text.toString();
    }

    private static String inClass(String members) {
        return "public final class MarketWeeks { " + members + " }";
    }

    private static void keeps(String members) throws IOException {
        Check.same(members, String.join("\n", LanguageRules.faults(inClass(members))), "");
    }

    private static void breaks(int rule, String members) throws IOException {
        breaksInAll(rule, inClass(members));
    }

    /** The rule is found broken, and no other. */
    private static void breaksInAll(int rule, String source) throws IOException {
        List<String> faults = LanguageRules.faults(source);
        boolean isFound = !faults.isEmpty();
        for (String fault : faults) {
            isFound &= fault.startsWith("rule " + rule + ",");
        }
        Check.same(source, isFound ? "" : String.join("\n", faults) + " are the faults", "");
    }
}
