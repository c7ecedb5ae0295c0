import java.util.function.BooleanSupplier;
import java.util.function.LongSupplier;

/** Counts what is not as due, and ends a test's main method. */
final class Check {
    private static int wrong = 0;
    private static int looked = 0;
    private static String about = "";
    private static int lookedAhead = 0;

    private Check() {
    }

    static void gives(String what, LongSupplier call, long due) {
        looked++;
        try {
            long answer = call.getAsLong();
            if (answer != due) {
                fault(what + " answered " + answer + ", due is " + due);
            }
        } catch (RuntimeException e) {
            fault(what + " threw " + e + ", due is " + due);
        }
    }

    static void is(String what, BooleanSupplier call, boolean due) {
        gives(what, () -> call.getAsBoolean() ? 1 : 0, due ? 1 : 0);
    }

    static void illegalArgument(String what, Runnable call) {
        refuses(what, call, IllegalArgumentException.class);
    }

    static void illegalState(String what, Runnable call) {
        refuses(what, call, IllegalStateException.class);
    }

    static void outOfBounds(String what, Runnable call) {
        refuses(what, call, IndexOutOfBoundsException.class);
    }

    // The very class: ArrayIndexOutOfBoundsException would mean that the machine threw.
    private static void refuses(String what, Runnable call, Class<? extends RuntimeException> due) {
        looked++;
        try {
            call.run();
            fault(what + " threw nothing, due is " + due.getSimpleName());
        } catch (RuntimeException e) {
            if (e.getClass() != due) {
                fault(what + " threw " + e + ", due is " + due.getSimpleName());
            }
        }
    }

    /** An outcome as a text is the due one. */
    static void same(String what, String outcome, String due) {
        looked++;
        if (!outcome.equals(due)) {
            fault(what + ": " + outcome + ", due is: " + due);
        }
    }

    /** The answers that come now are about this, and there must be one at least. */
    static void about(String words) {
        endOfAbout();
        about = words;
        lookedAhead = looked;
    }

    private static void endOfAbout() {
        if (!about.isEmpty() && looked == lookedAhead) {
            fault("no answer is looked at");
        }
    }

    static void fault(String text) {
        wrong++;
        if (wrong <= 50) {
            System.out.println((about.isEmpty() ? "" : "[" + about + "] ") + text);
        }
    }

    static void end() {
        endOfAbout();
        System.out.println(looked + " answers looked at, " + wrong + " not as due");
        if (wrong != 0) {
            System.exit(1);
        }
    }
}
