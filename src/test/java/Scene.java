/**
 * An object as it stands after some calls. Each test of a scene makes a new object, so that no test
 * sees what another one has done.
 */
final class Scene {
    static final Scene NEW = new Scene();

    private final Call[] calls;
    private final int markets;
    private final String[] answers;
    private final String[] answersInReverse;

    private Scene(Call... calls) {
        this.calls = calls;
        markets = marketsTold();
        answers = Answers.of(made(), markets);
        answersInReverse = Answers.ofReverse(made(), markets);
    }

    private int marketsTold() {
        int told = 0;
        for (Call call : calls) {
            told += call.text.startsWith("addMarket(") ? 1 : 0;
        }
        return told;
    }

    /** This scene and then these calls, none of which may throw. */
    Scene after(String... more) {
        Call[] all = java.util.Arrays.copyOf(calls, calls.length + more.length);
        System.arraycopy(Call.all(more), 0, all, calls.length, more.length);
        return new Scene(all);
    }

    MarketWeeks made() {
        MarketWeeks x = new MarketWeeks();
        for (Call call : calls) {
            call.on(x);
        }
        return x;
    }

    /** The call answers this; and if it only asks, everything answers afterwards as before. */
    void gives(String text, long due) {
        Call call = new Call(text);
        Check.same(this + text, call.outcome(made()), Long.toString(due));
        if (!call.changes()) {
            keeps(call);
        }
    }

    void tells(String text, boolean due) {
        gives(text, due ? 1 : 0);
    }

    /** Each call is taken, whatever it answers; and if it only asks, all is afterwards as before. */
    void takes(String... texts) {
        for (String text : texts) {
            Call call = new Call(text);
            String outcome = call.outcome(made());
            Check.same(this + text, outcome.startsWith("throws.") ? outcome : "taken", "taken");
            if (!call.changes()) {
                keeps(call);
            }
        }
    }

    void refusesArgument(String... texts) {
        refuses("throws.IllegalArgumentException", texts);
    }

    void refusesBounds(String... texts) {
        refuses("throws.IndexOutOfBoundsException", texts);
    }

    void refusesState(String... texts) {
        refuses("throws.IllegalStateException", texts);
    }

    /** Each call throws this, and everything else answers afterwards as it did before. */
    private void refuses(String due, String... texts) {
        for (String text : texts) {
            Call call = new Call(text);
            Check.same(this + text, call.outcome(made()), due);
            keeps(call);
        }
    }

    private void keeps(Call call) {
        MarketWeeks x = made();
        call.outcome(x);
        isAsBefore(call.text, x);
        MarketWeeks y = made();
        call.outcome(y);
        String[] after = Answers.ofReverse(y, markets);
        Check.same(this + call.text + ", then", Answers.difference(answersInReverse, after), "");
    }

    /** This object, of this scene, answers everything as the scene does. */
    void isAsBefore(String what, MarketWeeks x) {
        Check.same(this + what + ", then", Answers.difference(answers, Answers.of(x, markets)), "");
    }

    @Override
    public String toString() {
        StringBuilder text = new StringBuilder();
        for (Call call : calls) {
            text.append(call.text).append("; ");
        }
        return text.toString();
    }
}
