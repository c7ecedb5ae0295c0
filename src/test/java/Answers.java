import java.util.ArrayList;
import java.util.Collections;
import java.util.List;

/**
 * What an object answers to a fixed row of calls, which shows all that it has been told: each
 * market's length and place, the rules of moon and year, and what the next market's number is.
 */
final class Answers {
    private static final int MOST_MARKETS = 16;
    private static final Call[][] ROWS = new Call[MOST_MARKETS + 1][];
    private static final Call[][] REVERSE_ROWS = new Call[MOST_MARKETS + 1][];

    private Answers() {
    }

    /** Its number of markets is given, as asking for it is one of the calls that are looked at. */
    static String[] of(MarketWeeks x, int markets) {
        if (ROWS[markets] == null) {
            ROWS[markets] = row(markets, false);
        }
        return answers(x, ROWS[markets]);
    }

    /** The same from the last call to the first, but for those that may throw. */
    static String[] ofReverse(MarketWeeks x, int markets) {
        if (REVERSE_ROWS[markets] == null) {
            REVERSE_ROWS[markets] = row(markets, true);
        }
        return answers(x, REVERSE_ROWS[markets]);
    }

    private static String[] answers(MarketWeeks x, Call[] row) {
        String[] answers = new String[row.length];
        for (int i = 0; i < row.length; i++) {
            answers[i] = row[i].text + " answers " + row[i].outcome(x);
        }
        return answers;
    }

    /** Where two answers to the same row differ first, or an empty text. */
    static String difference(String[] before, String[] after) {
        for (int i = 0; i < before.length; i++) {
            if (!before[i].equals(after[i])) {
                return after[i] + ", without it " + before[i];
            }
        }
        return "";
    }

    /**
     * If a call wrongly changed something, so would the same call in the row, and hide it: hence
     * two orders, of which one asks for what is changed ahead of the call that changes it; and
     * hence calls that are refused come behind all others.
     */
    private static Call[] row(int markets, boolean isReverse) {
        List<String> row = new ArrayList<>();
        addMoonAndYear(row);
        addMarkets(row, markets);
        if (isReverse) {
            Collections.reverse(row);
        }
        addLast(row);
        return Call.all(row.toArray(new String[0]));
    }

    private static void addMoonAndYear(List<String> row) {
        for (int day : new int[] {-1000000, -61, -1, 0, 1, 59, 1000000}) {
            row.add("month(" + day + ")");
            row.add("lunarDay(" + day + ")");
            row.add("year(" + day + ")");
            row.add("placeInYear(" + day + ")");
        }
        for (int month : new int[] {-100000, -49, -2, -1, 0, 1, 2, 3, 49, 100000}) {
            row.add("monthBegin(" + month + ")");
        }
        for (int year : new int[] {-10000, -2, -1, 0, 1, 2, 33, 10000}) {
            row.add("dayOf(" + year + ", 0)");
        }
        for (int year = -20; year <= 20; year++) {
            row.add("isLeap(" + year + ")");
        }
    }

    private static void addMarkets(List<String> row, int markets) {
        row.add("markets()");
        for (int market = 0; market < markets; market++) {
            // the first shows the place, the second the length
            row.add("next(" + market + ", 0)");
            row.add("times(" + market + ", -1000000, 1000000)");
            row.add("nearest(" + market + ", 6)");
            row.add("isHeld(" + market + ", -4)");
            row.add("timesInYear(" + market + ", -1)");
        }
        for (int day : new int[] {-1000000, -61, -1, 0, 1, 59, 1000000}) {
            row.add("heldOn(" + day + ")");
        }
        for (int set : new int[] {1, 3, 6, 9, 24, 31, 0x8001, 0xffff}) {
            if (set >> markets == 0) {
                row.add("best(" + set + ", -9, 30)");
            }
            if (set >> markets == 0 && set != 0xffff) {
                row.add("doMeet(" + set + ")");
            }
        }
        // one market always meets
        for (int market = 0; market < markets; market += 5) {
            row.add("period(" + (1 << market) + ")");
            row.add("meeting(" + (1 << market) + ", -3)");
            row.add("lunarMeeting(" + (1 << market) + ", 2, 5, 60)");
        }
    }

    private static void addLast(List<String> row) {
        for (int set : new int[] {3, 6, 24, 31, 0x8001}) {
            row.add("period(" + set + ")");
            row.add("meeting(" + set + ", -3)");
            row.add("lunarMeeting(" + set + ", 2, 5, 60)");
        }
        row.add("next(0, 4)");
        row.add("next(15, 4)");
        // what can be told as before is seen by telling it
        row.add("shift(0, 1)");
        row.add("addMarket(59, 58)");
        row.add("markets()");
        row.add("heldOn(58)");
    }
}
