import java.lang.reflect.Constructor;
import java.lang.reflect.Field;
import java.lang.reflect.Method;
import java.lang.reflect.Modifier;
import java.util.Arrays;
import java.util.Set;
import java.util.TreeSet;

/** The class has the document's face, and no other member that is not private. */
public final class FaceTest {
    private static final String[] DUE = {
        "public static final int NONE",
        "public MarketWeeks()",
        "public int addMarket(int,int) throws IllegalArgumentException,IllegalStateException",
        "public int shift(int,int) throws IndexOutOfBoundsException,IllegalArgumentException",
        "public void setMoon(int,int,int) throws IllegalArgumentException",
        "public void setYear(int,int,int,int) throws IllegalArgumentException",
        "public int markets()",
        "public boolean isHeld(int,int) throws IndexOutOfBoundsException,IllegalArgumentException",
        "public int next(int,int) throws IndexOutOfBoundsException,IllegalArgumentException",
        "public int nearest(int,int) throws IndexOutOfBoundsException,IllegalArgumentException",
        "public int times(int,int,int) throws IndexOutOfBoundsException,IllegalArgumentException",
        "public int heldOn(int) throws IllegalArgumentException",
        "public boolean doMeet(int) throws IllegalArgumentException,IndexOutOfBoundsException",
        "public int period(int) throws"
            + " IllegalArgumentException,IndexOutOfBoundsException,IllegalStateException",
        "public int meeting(int,int) throws"
            + " IllegalArgumentException,IndexOutOfBoundsException,IllegalStateException",
        "public long lunarMeeting(int,int,int,int) throws"
            + " IllegalArgumentException,IndexOutOfBoundsException,IllegalStateException",
        "public int best(int,int,int) throws IllegalArgumentException,IndexOutOfBoundsException",
        "public int month(int) throws IllegalArgumentException",
        "public int lunarDay(int) throws IllegalArgumentException",
        "public int monthBegin(int) throws IllegalArgumentException",
        "public int year(int) throws IllegalArgumentException",
        "public int placeInYear(int) throws IllegalArgumentException",
        "public boolean isLeap(int) throws IllegalArgumentException",
        "public int dayOf(int,int) throws IllegalArgumentException",
        "public int timesInYear(int,int) throws IndexOutOfBoundsException,IllegalArgumentException",
    };

    public static void main(String[] args) {
        Class<MarketWeeks> face = MarketWeeks.class;
        Set<String> found = new TreeSet<>();
        Set<String> publicNames = new TreeSet<>();
        for (Field field : face.getDeclaredFields()) {
            addUnlessPrivate(found, field.getModifiers(), field.toString());
        }
        for (Constructor<?> constructor : face.getDeclaredConstructors()) {
            addUnlessPrivate(found, constructor.getModifiers(), constructor.toString());
        }
        for (Method method : face.getDeclaredMethods()) {
            addUnlessPrivate(found, method.getModifiers(), method.toString());
            if (Modifier.isPublic(method.getModifiers())) {
                publicNames.add(method.getName());
            }
        }
        Check.is("the class is public and final", () -> isPublicFinal(face), true);
        for (String member : DUE) {
            Check.is("there is " + member, () -> found.contains(member), true);
        }
        for (String member : found) {
            Check.is("the document has " + member, () -> Arrays.asList(DUE).contains(member), true);
        }
        for (Method method : face.getDeclaredMethods()) {
            boolean isPrivate = Modifier.isPrivate(method.getModifiers());
            Check.is("private and public name " + method.getName(),
                    () -> isPrivate && publicNames.contains(method.getName()), false);
        }
        Check.end();
    }

    private static boolean isPublicFinal(Class<?> face) {
        return Modifier.isPublic(face.getModifiers()) && Modifier.isFinal(face.getModifiers());
    }

    private static void addUnlessPrivate(Set<String> found, int modifiers, String member) {
        if (!Modifier.isPrivate(modifiers)) {
            found.add(member.replace("java.lang.", "").replace("MarketWeeks.", ""));
        }
    }
}
