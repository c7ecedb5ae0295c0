/** A call as it is written, such as "shift(0, -60)", which can be made on any object. */
final class Call {
    private static final int MOST_ARGUMENTS = 4;

    final String text;
    private final String name;
    private final int[] n = new int[MOST_ARGUMENTS];

    Call(String text) {
        this.text = text;
        int open = text.indexOf('(');
        name = text.substring(0, open);
        String inside = text.substring(open + 1, text.length() - 1);
        String[] parts = inside.isEmpty() ? new String[0] : inside.split(", ");
        for (int i = 0; i < parts.length; i++) {
            n[i] = Integer.parseInt(parts[i]);
        }
    }

    static Call[] all(String... texts) {
        Call[] calls = new Call[texts.length];
        for (int i = 0; i < texts.length; i++) {
            calls[i] = new Call(texts[i]);
        }
        return calls;
    }

    boolean changes() {
        return name.equals("addMarket") || name.equals("shift") || name.startsWith("set");
    }

    /** What the call answers: a boolean counts 1 or 0, nothing counts 0. */
    long on(MarketWeeks x) {
        switch (name) {
            case "addMarket": return x.addMarket(n[0], n[1]);
            case "shift": return x.shift(n[0], n[1]);
            case "setMoon": x.setMoon(n[0], n[1], n[2]); return 0;
            case "setYear": x.setYear(n[0], n[1], n[2], n[3]); return 0;
            case "markets": return x.markets();
            case "isHeld": return x.isHeld(n[0], n[1]) ? 1 : 0;
            case "next": return x.next(n[0], n[1]);
            case "nearest": return x.nearest(n[0], n[1]);
            case "times": return x.times(n[0], n[1], n[2]);
            case "heldOn": return x.heldOn(n[0]);
            case "doMeet": return x.doMeet(n[0]) ? 1 : 0;
            case "period": return x.period(n[0]);
            case "meeting": return x.meeting(n[0], n[1]);
            case "lunarMeeting": return x.lunarMeeting(n[0], n[1], n[2], n[3]);
            case "best": return x.best(n[0], n[1], n[2]);
            case "month": return x.month(n[0]);
            case "lunarDay": return x.lunarDay(n[0]);
            case "monthBegin": return x.monthBegin(n[0]);
            case "year": return x.year(n[0]);
            case "placeInYear": return x.placeInYear(n[0]);
            case "isLeap": return x.isLeap(n[0]) ? 1 : 0;
            case "dayOf": return x.dayOf(n[0], n[1]);
            case "timesInYear": return x.timesInYear(n[0], n[1]);
            default: throw new UnsupportedOperationException("no such call: " + text);
        }
    }

    /** The answer as a text, or "throws." and the very class of the exception. */
    String outcome(MarketWeeks x) {
        try {
            return Long.toString(on(x));
        } catch (RuntimeException e) {
            return "throws." + e.getClass().getSimpleName();
        }
    }
}
