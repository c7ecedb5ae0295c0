/**
 * Calendars of markets: cycles of days of several lengths that run beside one another, days on
 * which markets meet, lunar months with fractions, leap years by a rule, nearest dates, and the
 * best date for several markets.
 */
public final class MarketWeeks {
    public static final int NONE = -1;

    private static final int MOST_MARKETS = 16;
    private static final int MOST_MEETING = 5;
    private static final int LAST_LENGTH = 60;
    private static final int LAST_SHIFT = 60;
    private static final int LAST_DAY = 1000000;
    private static final int LAST_SPAN = 2000;
    private static final int LAST_LUNAR_DAY = 99;
    private static final int LAST_MEETINGS = 1000;
    private static final int LAST_MONTH = 100000;
    private static final int LAST_YEAR = 10000;

    private final int[] lengths = new int[MOST_MARKETS];
    private final int[] places = new int[MOST_MARKETS];
    private int count = 0;

    private int moonNum = 1447;
    private int moonDen = 49;
    private int moonShift = 0;

    private int yearCommon = 365;
    private int leapA = 8;
    private int leapB = 0;
    private int leapC = 33;

    public MarketWeeks() {
    }

    // ---- rules

    public int addMarket(int length, int place) throws IllegalArgumentException, IllegalStateException {
        checkArgument(isWithin(length, 1, LAST_LENGTH) && isWithin(place, 0, length - 1));
        int market = count;
        if (!isPlace(market)) {
            throw new IllegalStateException("there are as many markets as can be");
        }
        lengths[market] = length;
        places[market] = place;
        count = market + 1;
        return market;
    }

    public int shift(int market, int days) throws IndexOutOfBoundsException, IllegalArgumentException {
        checkMarket(market);
        checkArgument(isWithin(days, -LAST_SHIFT, LAST_SHIFT));
        int place = (int) modulo(placeOf(market) + days, lengthOf(market));
        if (isPlace(market)) {
            places[market] = place;
        }
        return place;
    }

    public void setMoon(int num, int den, int shift) throws IllegalArgumentException {
        // den first: only then the bounds of num can't run over
        checkArgument(isWithin(den, 1, 100) && isWithin(num, 2 * den, 100 * den));
        checkArgument(isWithin(shift, -1000, 1000));
        moonNum = num;
        moonDen = den;
        moonShift = shift;
    }

    public void setYear(int common, int a, int b, int c) throws IllegalArgumentException {
        checkArgument(isWithin(common, 100, 500) && isWithin(c, 1, 400));
        checkArgument(isWithin(a, 0, c) && isWithin(b, 0, c - 1));
        yearCommon = common;
        leapA = a;
        leapB = b;
        leapC = c;
    }

    public int markets() {
        return count;
    }

    // ---- a market

    public boolean isHeld(int market, int day) throws IndexOutOfBoundsException, IllegalArgumentException {
        checkMarket(market);
        checkDay(day);
        return isOn(market, day);
    }

    public int next(int market, int day) throws IndexOutOfBoundsException, IllegalArgumentException {
        checkMarket(market);
        checkDay(day);
        return (int) (day + modulo(placeOf(market) - day, lengthOf(market)));
    }

    public int nearest(int market, int day) throws IndexOutOfBoundsException, IllegalArgumentException {
        checkMarket(market);
        checkDay(day);
        int length = lengthOf(market);
        int since = (int) modulo(day - placeOf(market), length);
        int earlier = day - since;
        return since <= length - since ? earlier : earlier + length;
    }

    public int times(int market, int from, int to) throws IndexOutOfBoundsException, IllegalArgumentException {
        checkMarket(market);
        checkDay(from);
        checkDay(to);
        checkArgument(to >= from);
        return countHeld(market, from, to);
    }

    public int heldOn(int day) throws IllegalArgumentException {
        checkDay(day);
        return setOn(day);
    }

    // ---- markets that meet

    public boolean doMeet(int set) throws IllegalArgumentException, IndexOutOfBoundsException {
        checkMeetingSet(set);
        return firstMeeting(set) != NONE;
    }

    public int period(int set)
            throws IllegalArgumentException, IndexOutOfBoundsException, IllegalStateException {
        checkMeetingSet(set);
        checkTheyMeet(firstMeeting(set));
        return (int) commonLength(set);
    }

    public int meeting(int set, int day)
            throws IllegalArgumentException, IndexOutOfBoundsException, IllegalStateException {
        checkDay(day);
        checkMeetingSet(set);
        long first = firstMeeting(set);
        checkTheyMeet(first);
        return (int) (day + modulo(first - day, commonLength(set)));
    }

    public long lunarMeeting(int set, int day, int lunarDay, int meetings)
            throws IllegalArgumentException, IndexOutOfBoundsException, IllegalStateException {
        checkDay(day);
        checkArgument(isWithin(lunarDay, 0, LAST_LUNAR_DAY) && isWithin(meetings, 1, LAST_MEETINGS));
        checkMeetingSet(set);
        long first = firstMeeting(set);
        checkTheyMeet(first);
        long step = commonLength(set);
        long offset = modulo(first - day, step);
        for (int tried = 0; tried < meetings; tried++) {
            if (lunarDayOf(day + offset) == lunarDay) {
                return offset;
            }
            offset += step;
        }
        return NONE;
    }

    public int best(int set, int from, int to) throws IllegalArgumentException, IndexOutOfBoundsException {
        checkDay(from);
        checkDay(to);
        checkArgument(isWithin(to, from, from + LAST_SPAN));
        checkMarkets(set);
        int best = from;
        int most = 0;
        for (int day = from; day <= to; day++) {
            int held = Integer.bitCount(setOn(day) & set);
            if (held > most) {
                most = held;
                best = day;
            }
        }
        return best;
    }

    // ---- moon and year

    public int month(int day) throws IllegalArgumentException {
        checkDay(day);
        return (int) divide(moonParts(day), moonNum);
    }

    public int lunarDay(int day) throws IllegalArgumentException {
        checkDay(day);
        return (int) lunarDayOf(day);
    }

    public int monthBegin(int month) throws IllegalArgumentException {
        checkArgument(isWithin(month, -LAST_MONTH, LAST_MONTH));
        // a month may begin within a day; the first day that has it is the next whole one,
        // so this division is rounded up
        return (int) (-divide(-(long) month * moonNum, moonDen) - moonShift);
    }

    public int year(int day) throws IllegalArgumentException {
        checkDay(day);
        return yearOf(day);
    }

    public int placeInYear(int day) throws IllegalArgumentException {
        checkDay(day);
        return day - yearBegin(yearOf(day));
    }

    public boolean isLeap(int year) throws IllegalArgumentException {
        checkYear(year);
        return hasLeapDay(year);
    }

    public int dayOf(int year, int place) throws IllegalArgumentException {
        checkYear(year);
        int days = hasLeapDay(year) ? yearCommon + 1 : yearCommon;
        checkArgument(isWithin(place, 0, days - 1));
        return yearBegin(year) + place;
    }

    public int timesInYear(int market, int year) throws IndexOutOfBoundsException, IllegalArgumentException {
        checkMarket(market);
        checkYear(year);
        return countHeld(market, yearBegin(year), yearBegin(year + 1) - 1);
    }

    // ---- what calls refuse

    private static void checkArgument(boolean isInRange) {
        if (!isInRange) {
            throw new IllegalArgumentException("an argument is out of range");
        }
    }

    private static void checkDay(int day) {
        checkArgument(isWithin(day, -LAST_DAY, LAST_DAY));
    }

    private static void checkYear(int year) {
        checkArgument(isWithin(year, -LAST_YEAR, LAST_YEAR));
    }

    private void checkMarket(int market) {
        if (!isWithin(market, 0, count - 1)) {
            throw new IndexOutOfBoundsException("there is no such market");
        }
    }

    private void checkMarkets(int set) {
        if (set >>> count != 0) {
            throw new IndexOutOfBoundsException("a bit stands for no market");
        }
    }

    private void checkMeetingSet(int set) {
        checkArgument(isWithin(Integer.bitCount(set), 1, MOST_MEETING));
        checkMarkets(set);
    }

    private static void checkTheyMeet(long firstMeeting) {
        if (firstMeeting == NONE) {
            throw new IllegalStateException("they never meet");
        }
    }

    // ---- markets by number

    private boolean isPlace(int market) {
        return market >= 0 && market < lengths.length && market < places.length;
    }

    private int lengthOf(int market) {
        return isPlace(market) ? lengths[market] : 1;
    }

    private int placeOf(int market) {
        return isPlace(market) ? places[market] : 0;
    }

    private boolean isOn(int market, long day) {
        return modulo(day, lengthOf(market)) == placeOf(market);
    }

    private int setOn(int day) {
        int set = 0;
        for (int market = 0; market < count; market++) {
            if (isOn(market, day)) {
                set |= 1 << market;
            }
        }
        return set;
    }

    /** Takes any days: those of far years lie outside of the days that may be given. */
    private int countHeld(int market, int from, int to) {
        int length = lengthOf(market);
        int place = placeOf(market);
        return (int) (divide(to - place, length) - divide(from - 1 - place, length));
    }

    // ---- days on which a set meets

    /** The first day from day 0 on which the set meets, or NONE. */
    private long firstMeeting(int set) {
        long day = 0;
        long step = 1;
        for (int market = 0; market < count; market++) {
            if ((set >>> market & 1) == 1) {
                day = firstHeldInSteps(market, day, step);
                if (day == NONE) {
                    return NONE;
                }
                step = commonMultiple(step, lengthOf(market));
            }
        }
        return day;
    }

    private long firstHeldInSteps(int market, long from, long step) {
        int length = lengthOf(market);
        // after as many steps as the length has days, the places come again
        for (int steps = 0; steps < length; steps++) {
            long day = from + steps * step;
            if (isOn(market, day)) {
                return day;
            }
        }
        return NONE;
    }

    /** Below 2^31, as a set that meets has at most five lengths of at most 60. */
    private long commonLength(int set) {
        long common = 1;
        for (int market = 0; market < count; market++) {
            if ((set >>> market & 1) == 1) {
                common = commonMultiple(common, lengthOf(market));
            }
        }
        return common;
    }

    private static long commonMultiple(long number, int length) {
        for (int factor = 1; factor < length; factor++) {
            if (modulo(number * factor, length) == 0) {
                return number * factor;
            }
        }
        return number * length;
    }

    // ---- moon and year for any day

    /** Days since month 0 began, in parts of a day as small as the month's fraction. */
    private long moonParts(long day) {
        return (day + moonShift) * moonDen;
    }

    private long lunarDayOf(long day) {
        return divide(modulo(moonParts(day), moonNum), moonDen);
    }

    private int yearBegin(int year) {
        return yearCommon * year + (int) divide(leapA * year + leapB, leapC);
    }

    private int yearOf(int day) {
        // The year y begins with ((common * c + a) * y + b) / c. That is not behind the day
        // as long as (common * c + a) * y + b is below c * (day + 1); this is the last such y.
        long partsBelow = (long) leapC * (day + 1) - 1 - leapB;
        return (int) divide(partsBelow, (long) yearCommon * leapC + leapA);
    }

    private boolean hasLeapDay(int year) {
        return modulo(leapA * year + leapB, leapC) >= leapC - leapA;
    }

    // ---- numbers

    private static boolean isWithin(int number, int least, int most) {
        return number >= least && number <= most;
    }

    /** The rules keep every divisor above 0; the test is for the machine, which must not throw. */
    private static long divide(long number, long divisor) {
        return divisor > 0 ? Math.floorDiv(number, divisor) : 0;
    }

    private static long modulo(long number, long divisor) {
        return divisor > 0 ? Math.floorMod(number, divisor) : 0;
    }
}
