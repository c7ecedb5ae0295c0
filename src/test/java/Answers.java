import java.util.ArrayList;
import java.util.List;

/**
 * What an object answers to a fixed row of calls, which shows all that it has been told: each
 * market's length and place, the rules of moon and year, and what the next market's number is.
 */
final class Answers {
    private static final int MARKETS = 16;
    private static final Call[] ROW = row();

    private Answers() {
    }

    private static Call[] row() {
        List<String> row = new ArrayList<>();
        row.add("markets()");
        for (int market = 0; market < MARKETS; market++) {
            // the first shows the place, the second the length
            row.add("next(" + market + ", 0)");
            row.add("times(" + market + ", -1000000, 1000000)");
        }
        for (int day : new int[] {-1000000, -61, -1, 0, 1, 59, 1000000}) {
            row.add("heldOn(" + day + ")");
            row.add("month(" + day + ")");
            row.add("lunarDay(" + day + ")");
            row.add("year(" + day + ")");
            row.add("placeInYear(" + day + ")");
        }
        for (int month : new int[] {-100000, -49, -2, -1, 0, 1, 2, 3, 49, 100000}) {
            row.add("monthBegin(" + month + ")");
        }
        for (int year : new int[] {-10000, -2, -1, 0, 1, 2, 33, 10000}) {
            row.add("dayOf(" + year + ", 0)");
            row.add("timesInYear(0, " + year + ")");
        }
        for (int year = -20; year <= 20; year++) {
            row.add("isLeap(" + year + ")");
        }
        for (int set : new int[] {1, 3, 6, 24, 31, 0x8001}) {
            row.add("doMeet(" + set + ")");
            row.add("period(" + set + ")");
            row.add("meeting(" + set + ", -3)");
            row.add("lunarMeeting(" + set + ", 2, 5, 60)");
            row.add("best(" + set + ", -9, 30)");
        }
        row.add("nearest(0, 6)");
        row.add("isHeld(0, -4)");
        // what is told last can't be seen by the calls ahead of it
        row.add("shift(0, 1)");
        row.add("addMarket(59, 58)");
        row.add("markets()");
        row.add("heldOn(58)");
        return Call.all(row.toArray(new String[0]));
    }

    static String[] of(MarketWeeks x) {
        String[] answers = new String[ROW.length];
        for (int i = 0; i < ROW.length; i++) {
            answers[i] = ROW[i].outcome(x);
        }
        return answers;
    }

    /** Where two rows of answers differ first, or an empty text. */
    static String difference(String[] before, String[] after) {
        for (int i = 0; i < ROW.length; i++) {
            if (!before[i].equals(after[i])) {
                return ROW[i].text + " answers " + after[i] + ", without it " + before[i];
            }
        }
        return "";
    }
}
