/**
 * An object as it stands after some calls. Each test of a scene makes a new object, so that no test
 * sees what another one has done.
 */
final class Scene {
    static final Scene NEW = new Scene();

    private final Call[] calls;
    private final String[] answers;

    private Scene(Call... calls) {
        this.calls = calls;
        answers = Answers.of(made());
    }

    /** This scene and then these calls, none of which may throw. */
    Scene after(String... more) {
        Call[] all = java.util.Arrays.copyOf(calls, calls.length + more.length);
        System.arraycopy(Call.all(more), 0, all, calls.length, more.length);
        return new Scene(all);
    }

    MarketWeeks made() {
        MarketWeeks x = new MarketWeeks();
        for (Call call : calls) {
            call.on(x);
        }
        return x;
    }

    /** The call answers this; and if it only asks, everything answers afterwards as before. */
    void gives(String text, long due) {
        Call call = new Call(text);
        MarketWeeks x = made();
        Check.same(this + text, call.outcome(x), Long.toString(due));
        if (!call.changes()) {
            keeps(text, x);
        }
    }

    void tells(String text, boolean due) {
        gives(text, due ? 1 : 0);
    }

    /** The call is taken: it throws nothing. */
    void takes(String... texts) {
        for (String text : texts) {
            String outcome = new Call(text).outcome(made());
            Check.same(this + text, outcome.startsWith("throws.") ? outcome : "taken", "taken");
        }
    }

    void refusesArgument(String... texts) {
        refuses("throws.IllegalArgumentException", texts);
    }

    void refusesBounds(String... texts) {
        refuses("throws.IndexOutOfBoundsException", texts);
    }

    void refusesState(String... texts) {
        refuses("throws.IllegalStateException", texts);
    }

    /** Each call throws this, and everything else answers afterwards as it did before. */
    private void refuses(String due, String... texts) {
        for (String text : texts) {
            MarketWeeks x = made();
            Check.same(this + text, new Call(text).outcome(x), due);
            keeps(text, x);
        }
    }

    private void keeps(String text, MarketWeeks x) {
        Check.same(this + text + ", afterwards", Answers.difference(answers, Answers.of(x)), "");
    }

    @Override
    public String toString() {
        StringBuilder text = new StringBuilder();
        for (Call call : calls) {
            text.append(call.text).append("; ");
        }
        return text.toString();
    }
}
