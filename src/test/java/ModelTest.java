/**
 * Runs of calls with mixed arguments, each answer compared with one that is found by going through
 * days, months or years one by one. The arguments come from a fixed row of numbers, so that every
 * run is the same.
 */
public final class ModelTest {
    private static final int RUNS = 80;
    // some steps make two calls; after 512 of them an object's answers are free
    private static final int CALLS = 400;
    private static final int DAY = 1000000;

    private static final String ARGUMENT = "IllegalArgumentException";
    private static final String BOUNDS = "IndexOutOfBoundsException";
    private static final String STATE = "IllegalStateException";

    private static long row = 20261119;

    private MarketWeeks x;
    private int[] length;
    private int[] place;
    private int count;
    private int num;
    private int den;
    private int moonShift;
    private int common;
    private int a;
    private int b;
    private int c;
    private int longest;

    public static void main(String[] args) {
        for (int run = 0; run < RUNS; run++) {
            new ModelTest().run(run);
        }
        Check.end();
    }

    // ---- the row of numbers

    private static int upTo(int bound) {
        row = row * 6364136223846793005L + 1442695040888963407L;
        return (int) Math.floorMod(row >>> 33, (long) bound);
    }

    private static int between(int least, int most) {
        return least + upTo(most - least + 1);
    }

    /** Mostly between the two, often one of them, now and then outside. */
    private static int near(int least, int most) {
        switch (upTo(24)) {
            case 0: return least;
            case 1: return most;
            case 2: return upTo(4) == 0 ? least - 1 : least;
            case 3: return upTo(4) == 0 ? most + 1 : most;
            case 4: return upTo(6) == 0 ? Integer.MIN_VALUE : least;
            case 5: return upTo(6) == 0 ? Integer.MAX_VALUE : most;
            default: return between(least, most);
        }
    }

    private int anyDay() {
        return upTo(2) == 0 ? near(-DAY, DAY) : near(-400, 400);
    }

    private int anyMarket() {
        return count > 0 && upTo(12) != 0 ? upTo(count) : near(0, count);
    }

    private int anySet() {
        if (upTo(16) == 0) {
            return near(0, 1 << 17);
        }
        int set = 0;
        for (int i = between(1, 5); i > 0 && count > 0; i--) {
            set |= 1 << upTo(count);
        }
        return set;
    }

    // ---- a run

    private void run(int run) {
        x = new MarketWeeks();
        length = new int[16];
        place = new int[16];
        num = 1447;
        den = 49;
        common = 365;
        a = 8;
        c = 33;
        longest = run % 3 == 0 ? 60 : run % 3 == 1 ? 12 : 6;
        for (int i = 0; i < CALLS; i++) {
            switch (i < 4 ? 0 : upTo(24)) {
                case 0: addMarket(near(1, longest)); break;
                case 1: shift(anyMarket(), near(-60, 60)); break;
                case 2: setMoon(near(1, 100)); break;
                case 3: setYear(near(100, 500), near(1, 400)); break;
                case 4: expect("markets()", null, count); break;
                case 5: isHeld(anyMarket(), anyDay()); break;
                case 6: next(anyMarket(), anyDay()); break;
                case 7: nearest(anyMarket(), anyDay()); break;
                case 8: times(anyMarket(), anyDay()); break;
                case 9: heldOn(anyDay()); break;
                case 10: doMeet(anySet()); break;
                case 11: period(anySet()); break;
                case 12: case 13: meeting(anySet(), anyDay()); break;
                case 14: case 15: lunarMeeting(anySet(), anyDay(), near(0, 99), near(1, 1000)); break;
                case 16: best(upTo(8) == 0 ? near(0, 1 << 16) : upTo(1 << count), anyDay()); break;
                case 17: month(anyDay()); break;
                case 18: lunarDay(anyDay()); break;
                case 19: monthBegin(near(-100000, 100000)); break;
                case 20: year(anyDay()); break;
                case 21: isLeap(near(-10000, 10000)); break;
                case 22: dayOf(near(-10000, 10000)); break;
                default: timesInYear(anyMarket(), near(-10000, 10000)); break;
            }
        }
    }

    // ---- what is due, by the words of the document

    private static boolean out(int number, int least, int most) {
        return number < least || number > most;
    }

    private boolean held(int market, long day) {
        return Math.floorMod(day, length[market]) == place[market];
    }

    private boolean noMarket(int market) {
        return market < 0 || market >= count;
    }

    private boolean noMarkets(int set) {
        for (int bit = 0; bit < 32; bit++) {
            if ((set & (1 << bit)) != 0 && bit >= count) {
                return true;
            }
        }
        return false;
    }

    private boolean wrongSize(int set) {
        return Integer.bitCount(set) < 1 || Integer.bitCount(set) > 5;
    }

    private static long gcd(long p, long q) {
        return q == 0 ? p : gcd(q, p % q);
    }

    /** Two markets meet if their places are alike modulo what divides both lengths. */
    private boolean meet(int set) {
        for (int i = 0; i < count; i++) {
            for (int j = 0; j < i; j++) {
                boolean both = (set >> i & 1) == 1 && (set >> j & 1) == 1;
                if (both && (place[i] - place[j]) % gcd(length[i], length[j]) != 0) {
                    return false;
                }
            }
        }
        return true;
    }

    private long lcm(int set) {
        long all = 1;
        for (int i = 0; i < count; i++) {
            if ((set >> i & 1) == 1) {
                all = all / gcd(all, length[i]) * length[i];
            }
        }
        return all;
    }

    private boolean allHeld(int set, long day) {
        for (int i = 0; i < count; i++) {
            if ((set >> i & 1) == 1 && !held(i, day)) {
                return false;
            }
        }
        return true;
    }

    private long monthOf(long day) {
        return Math.floorDiv((day + moonShift) * den, (long) num);
    }

    private long lunarOf(long day) {
        return Math.floorMod((day + moonShift) * den, (long) num) / den;
    }

    private boolean leap(long year) {
        return Math.floorMod(a * year + b, (long) c) >= c - a;
    }

    private long begin(long year) {
        return common * year + Math.floorDiv(a * year + b, (long) c);
    }

    // ---- the calls

    private void expect(String what, String exception, long due) {
        String outcome = new Call(what).outcome(x);
        Check.same(what, outcome, exception == null ? Long.toString(due) : "throws." + exception);
    }

    private static String written(String name, int... arguments) {
        StringBuilder text = new StringBuilder(name).append('(');
        for (int i = 0; i < arguments.length; i++) {
            text.append(i == 0 ? "" : ", ").append(arguments[i]);
        }
        return text.append(')').toString();
    }

    private void addMarket(int len) {
        int at = near(0, Math.max(1, Math.min(len, 60)) - 1);
        boolean wrong = out(len, 1, 60) || out(at, 0, len - 1);
        expect(written("addMarket", len, at), wrong ? ARGUMENT : count == 16 ? STATE : null, count);
        if (!wrong && count < 16) {
            length[count] = len;
            place[count] = at;
            count++;
        }
    }

    private void shift(int market, int days) {
        String exception = noMarket(market) ? BOUNDS : out(days, -60, 60) ? ARGUMENT : null;
        if (exception == null) {
            int moved = place[market];
            for (int i = 0; i < Math.abs(days); i++) {
                moved += days > 0 ? 1 : -1;
                moved = moved == length[market] ? 0 : moved < 0 ? length[market] - 1 : moved;
            }
            place[market] = moved;
        }
        expect(written("shift", market, days), exception, exception == null ? place[market] : 0);
    }

    private void setMoon(int newDen) {
        int newNum = near(2 * Math.floorMod(newDen, 128), 100 * Math.floorMod(newDen, 128));
        int newShift = near(-1000, 1000);
        boolean wrong = out(newDen, 1, 100) || newNum < 2L * newDen || newNum > 100L * newDen
                || out(newShift, -1000, 1000);
        expect(written("setMoon", newNum, newDen, newShift), wrong ? ARGUMENT : null, 0);
        if (!wrong) {
            num = newNum;
            den = newDen;
            moonShift = newShift;
        }
    }

    private void setYear(int newCommon, int newC) {
        int newA = near(0, Math.floorMod(newC, 512));
        int newB = near(0, Math.max(1, Math.floorMod(newC, 512)) - 1);
        boolean wrong = out(newCommon, 100, 500) || out(newC, 1, 400) || out(newA, 0, newC)
                || out(newB, 0, newC - 1);
        expect(written("setYear", newCommon, newA, newB, newC), wrong ? ARGUMENT : null, 0);
        if (!wrong) {
            common = newCommon;
            a = newA;
            b = newB;
            c = newC;
        }
    }

    private String marketAndDay(int market, int day) {
        return noMarket(market) ? BOUNDS : out(day, -DAY, DAY) ? ARGUMENT : null;
    }

    private void isHeld(int market, int day) {
        String exception = marketAndDay(market, day);
        expect(written("isHeld", market, day), exception,
                exception == null && held(market, day) ? 1 : 0);
    }

    private void next(int market, int day) {
        String exception = marketAndDay(market, day);
        int due = day;
        while (exception == null && !held(market, due)) {
            due++;
        }
        expect(written("next", market, day), exception, due);
    }

    private void nearest(int market, int day) {
        String exception = marketAndDay(market, day);
        int away = 0;
        while (exception == null && !held(market, day - away) && !held(market, day + away)) {
            away++;
        }
        boolean earlier = exception == null && held(market, day - away);
        expect(written("nearest", market, day), exception, earlier ? day - away : day + away);
    }

    private void times(int market, int from) {
        int to = upTo(8) == 0 ? anyDay() : from + between(-1, 300);
        String exception = noMarket(market) ? BOUNDS
                : out(from, -DAY, DAY) || out(to, -DAY, DAY) || to < from ? ARGUMENT : null;
        int due = 0;
        for (int day = from; exception == null && day <= to; day++) {
            due += held(market, day) ? 1 : 0;
        }
        expect(written("times", market, from, to), exception, due);
    }

    private void heldOn(int day) {
        int due = 0;
        for (int market = 0; market < count; market++) {
            due += held(market, day) ? 1 << market : 0;
        }
        expect(written("heldOn", day), out(day, -DAY, DAY) ? ARGUMENT : null, due);
    }

    private String setAlone(int set) {
        return wrongSize(set) ? ARGUMENT : noMarkets(set) ? BOUNDS : null;
    }

    private void doMeet(int set) {
        expect(written("doMeet", set), setAlone(set), meet(set) ? 1 : 0);
    }

    private void period(int set) {
        String exception = setAlone(set);
        expect(written("period", set), exception == null && !meet(set) ? STATE : exception, lcm(set));
    }

    private String setAndDay(int set, int day) {
        String exception = out(day, -DAY, DAY) ? ARGUMENT : setAlone(set);
        return exception == null && !meet(set) ? STATE : exception;
    }

    /** Of as many days as the period has, just one is a meeting; long periods are not gone through. */
    private long firstMeeting(int set, int day) {
        long period = lcm(set);
        if (period > 200000) {
            long said = x.meeting(set, day);
            boolean right = said >= day && said < day + period && allHeld(set, said);
            return right ? said : Long.MIN_VALUE;
        }
        long due = day;
        while (!allHeld(set, due)) {
            due++;
        }
        return due;
    }

    private void meeting(int set, int day) {
        String exception = setAndDay(set, day);
        expect(written("meeting", set, day), exception, exception == null ? firstMeeting(set, day) : 0);
    }

    private void lunarMeeting(int set, int day, int lunarDay, int meetings) {
        boolean wrong = out(lunarDay, 0, 99) || out(meetings, 1, 1000);
        String exception = wrong ? ARGUMENT : setAndDay(set, day);
        long due = -1;
        if (exception == null) {
            long first = firstMeeting(set, day);
            for (long i = 0; i < meetings && due == -1; i++) {
                long met = first + i * lcm(set);
                due = lunarOf(met) == lunarDay ? met - day : -1;
            }
        }
        expect(written("lunarMeeting", set, day, lunarDay, meetings), exception, due);
    }

    private void best(int set, int from) {
        int to = from + near(0, 2000);
        boolean wrong = out(from, -DAY, DAY) || out(to, -DAY, DAY) || to < from || to - from > 2000;
        String exception = wrong ? ARGUMENT : noMarkets(set) ? BOUNDS : null;
        int due = from;
        int most = -1;
        for (int day = from; exception == null && day <= to; day++) {
            int held = 0;
            for (int market = 0; market < count; market++) {
                held += (set >> market & 1) == 1 && held(market, day) ? 1 : 0;
            }
            due = held > most ? day : due;
            most = Math.max(most, held);
        }
        expect(written("best", set, from, to), exception, due);
    }

    private void month(int day) {
        expect(written("month", day), out(day, -DAY, DAY) ? ARGUMENT : null, monthOf(day));
    }

    private void lunarDay(int day) {
        expect(written("lunarDay", day), out(day, -DAY, DAY) ? ARGUMENT : null, lunarOf(day));
    }

    private void monthBegin(int month) {
        boolean wrong = out(month, -100000, 100000);
        long due = (long) month * num / den - moonShift - 200;
        while (!wrong && monthOf(due) < month) {
            due++;
        }
        expect(written("monthBegin", month), wrong ? ARGUMENT : null, due);
    }

    private void year(int day) {
        boolean wrong = out(day, -DAY, DAY);
        long year = 0;
        while (!wrong && begin(year) > day) {
            year--;
        }
        while (!wrong && begin(year + 1) <= day) {
            year++;
        }
        expect(written("year", day), wrong ? ARGUMENT : null, year);
        expect(written("placeInYear", day), wrong ? ARGUMENT : null, day - begin(year));
    }

    private void isLeap(int year) {
        expect(written("isLeap", year), out(year, -10000, 10000) ? ARGUMENT : null, leap(year) ? 1 : 0);
    }

    private void dayOf(int year) {
        int at = near(0, upTo(2) == 0 ? common : common - 1);
        long days = leap(year) ? common + 1 : common;
        boolean wrong = out(year, -10000, 10000) || at < 0 || at >= days;
        expect(written("dayOf", year, at), wrong ? ARGUMENT : null, begin(year) + at);
    }

    private void timesInYear(int market, int year) {
        String exception = noMarket(market) ? BOUNDS : out(year, -10000, 10000) ? ARGUMENT : null;
        int due = 0;
        for (int i = 0; exception == null && i < (leap(year) ? common + 1 : common); i++) {
            due += held(market, begin(year) + i) ? 1 : 0;
        }
        expect(written("timesInYear", market, year), exception, due);
    }
}
