import java.lang.reflect.Constructor;
import java.lang.reflect.Field;
import java.lang.reflect.Method;
import java.lang.reflect.Modifier;
import java.util.ArrayList;
import java.util.List;
import java.util.Set;
import java.util.TreeSet;
import java.util.regex.Matcher;
import java.util.regex.Pattern;

/**
 * The class has the face that the document writes out, with the same exceptions declared, and no
 * other member that is not private.
 */
public final class FaceTest {
    private static final Class<?> FACE = MarketWeeks.class;
    /** 22 methods, the constructor and the constant. */
    private static final int MEMBERS = 25;

    private FaceTest() {
    }

    public static void main(String[] args) {
        List<String> written = written();
        Check.gives("members that the document writes out", written::size, MEMBERS);
        members(written);
        source(written);
        promises(written);
        names();
        Check.end();
    }

    /** The document's members, each without the mark at its end. */
    private static List<String> written() {
        List<String> members = new ArrayList<>();
        for (List<String> block : Texts.javaBlocks(Texts.of(Texts.DOCUMENT))) {
            for (String line : block) {
                if (line.startsWith("    ")) {
                    members.add(line.trim().replaceFirst(";$", ""));
                } else if (!line.equals("}")) {
                    Check.same("the class", line, "public final class MarketWeeks {");
                }
            }
        }
        return members;
    }

    private static void members(List<String> written) {
        Check.is("the class is public", () -> Modifier.isPublic(FACE.getModifiers()), true);
        Check.is("the class is final", () -> Modifier.isFinal(FACE.getModifiers()), true);
        Set<String> due = new TreeSet<>();
        for (String member : written) {
            due.add(member.replaceAll("(int|long|boolean) \\w+(?=[,)])", "$1").replace(", ", ",")
                    .replaceFirst(" = .*", ""));
        }
        Set<String> found = found();
        for (String member : due) {
            Check.is("there is " + member, () -> found.contains(member), true);
        }
        for (String member : found) {
            Check.is("the document has " + member, () -> due.contains(member), true);
        }
    }

    private static Set<String> found() {
        Set<String> found = new TreeSet<>();
        for (Field field : FACE.getDeclaredFields()) {
            addUnlessPrivate(found, field.getModifiers(), field.toString());
        }
        for (Constructor<?> constructor : FACE.getDeclaredConstructors()) {
            addUnlessPrivate(found, constructor.getModifiers(), constructor.toString());
        }
        for (Method method : FACE.getDeclaredMethods()) {
            addUnlessPrivate(found, method.getModifiers(), method.toString());
        }
        return found;
    }

    private static void addUnlessPrivate(Set<String> found, int modifiers, String member) {
        if (!Modifier.isPrivate(modifiers)) {
            found.add(member.replace("java.lang.", "").replace("MarketWeeks.", ""));
        }
    }

    /** With the names of the arguments, and the value of the constant. */
    private static void source(List<String> written) {
        String source = Texts.of(Texts.CLASS).replaceAll("\\s+", " ");
        for (String member : written) {
            String due = member + (member.contains(" = ") ? ";" : " {");
            Check.is("written so: " + due, () -> source.contains(due), true);
        }
    }

    /** Each promise begins with a call, which is declared as in the face. */
    private static void promises(List<String> written) {
        Matcher matcher = Pattern.compile("(?m)^## Promise (\\d+): .*\\R\\R`(.*?)`: ")
                .matcher(Texts.of(Texts.DOCUMENT));
        Set<String> promised = new TreeSet<>();
        while (matcher.find()) {
            String member = "public " + matcher.group(2);
            promised.add(member);
            Check.is("the face has promise " + matcher.group(1), () -> written.contains(member), true);
        }
        Check.gives("members that are promised, besides the constant", promised::size, MEMBERS - 1);
    }

    private static void names() {
        Set<String> publicNames = new TreeSet<>();
        for (Method method : FACE.getDeclaredMethods()) {
            if (Modifier.isPublic(method.getModifiers())) {
                publicNames.add(method.getName());
            }
        }
        for (Method method : FACE.getDeclaredMethods()) {
            boolean isPrivate = Modifier.isPrivate(method.getModifiers());
            Check.is("private and public name " + method.getName(),
                    () -> isPrivate && publicNames.contains(method.getName()), false);
        }
    }
}
