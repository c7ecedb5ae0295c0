/** Promises 17 to 24: moon and year. */
final class MoonYearSentences {
    private static final String DAY_OUT = "Throws `IllegalArgumentException` if day is out of range";
    private static final String YEAR = "- `year`: -10000 to 10000";
    private static final String YEAR_OUT = "Throws `IllegalArgumentException` if year is out of range";

    private static final Scene NEW = Scene.NEW;
    private static final Scene SIX = Scenes.SIX;
    private static final Scene TOLD = Scenes.TOLD;
    private static final Scene FULL = Scenes.FULL;

    /** The shortest months and years that can be, and the longest. */
    private static final Scene SHORT = NEW.after("addMarket(1, 0)", "setMoon(2, 1, 0)", "setYear(100, 0, 0, 1)");
    private static final Scene LONG = NEW.after("addMarket(1, 0)", "setMoon(10000, 100, 0)",
            "setYear(500, 1, 0, 1)");

    private MoonYearSentences() {
    }

    static void look() {
        month();
        lunarDay();
        monthBegin();
        year();
        placeInYear();
        isLeap();
        dayOf();
        timesInYear();
    }

    private static void month() {
        Sentences.under("Promise 17: month");

        Sentences.hold("Returns the month of a day.");
        NEW.gives("month(0)", 0);
        NEW.gives("month(29)", 0);
        NEW.gives("month(30)", 1);
        NEW.gives("month(59)", 1);
        NEW.gives("month(60)", 2);
        NEW.gives("month(88)", 2);
        NEW.gives("month(89)", 3);
        NEW.gives("month(-1)", -1);
        NEW.gives("month(-29)", -1);
        NEW.gives("month(-30)", -2);
        NEW.gives("month(-59)", -2);
        NEW.gives("month(-60)", -3);
        // the cycle of 49 months begins again
        NEW.gives("month(1446)", 48);
        NEW.gives("month(1447)", 49);
        NEW.gives("month(-1447)", -49);
        NEW.gives("month(-1448)", -50);
        NEW.gives("month(1000000)", 33863);
        NEW.gives("month(-1000000)", -33864);
        TOLD.gives("month(-4)", -1);
        TOLD.gives("month(-3)", 0);
        TOLD.gives("month(26)", 0);
        TOLD.gives("month(27)", 1);
        TOLD.gives("month(55)", 1);
        TOLD.gives("month(56)", 2);
        SHORT.gives("month(1)", 0);
        SHORT.gives("month(2)", 1);
        SHORT.gives("month(-1)", -1);
        SHORT.gives("month(-2)", -1);
        SHORT.gives("month(-3)", -2);
        SHORT.gives("month(1000000)", 500000);
        SHORT.gives("month(-1000000)", -500000);
        SHORT.after("setMoon(2, 1, 1000)").gives("month(1000000)", 500500);
        SHORT.after("setMoon(2, 1, -1000)").gives("month(-1000000)", -500500);
        LONG.gives("month(99)", 0);
        LONG.gives("month(100)", 1);
        LONG.gives("month(-100)", -1);
        LONG.gives("month(-101)", -2);
        LONG.gives("month(1000000)", 10000);
        LONG.gives("month(999999)", 9999);
        LONG.gives("month(-1000000)", -10000);

        Sentences.hold(DAY_OUT);
        Scenes.refusesDays(NEW, "month(%d)");
        Scenes.refusesDays(TOLD, "month(%d)");
        Scenes.refusesDays(SHORT, "month(%d)");
    }

    private static void lunarDay() {
        Sentences.under("Promise 18: lunarDay");

        Sentences.hold("Returns the lunar day of a day.");
        NEW.gives("lunarDay(0)", 0);
        NEW.gives("lunarDay(1)", 1);
        NEW.gives("lunarDay(29)", 29);
        NEW.gives("lunarDay(30)", 0);
        NEW.gives("lunarDay(59)", 29);
        NEW.gives("lunarDay(60)", 0);
        NEW.gives("lunarDay(88)", 28);
        NEW.gives("lunarDay(89)", 0);
        NEW.gives("lunarDay(-1)", 28);
        NEW.gives("lunarDay(-29)", 0);
        NEW.gives("lunarDay(-30)", 29);
        NEW.gives("lunarDay(-59)", 0);
        NEW.gives("lunarDay(-60)", 28);
        NEW.gives("lunarDay(1446)", 28);
        NEW.gives("lunarDay(1447)", 0);
        NEW.gives("lunarDay(-1447)", 0);
        NEW.gives("lunarDay(1000000)", 4);
        NEW.gives("lunarDay(-1000000)", 24);
        TOLD.gives("lunarDay(-4)", 28);
        TOLD.gives("lunarDay(-3)", 0);
        TOLD.gives("lunarDay(26)", 29);
        TOLD.gives("lunarDay(27)", 0);
        TOLD.gives("lunarDay(55)", 28);
        TOLD.gives("lunarDay(56)", 0);
        SHORT.gives("lunarDay(0)", 0);
        SHORT.gives("lunarDay(1)", 1);
        SHORT.gives("lunarDay(2)", 0);
        SHORT.gives("lunarDay(-1)", 1);
        SHORT.gives("lunarDay(-2)", 0);
        LONG.gives("lunarDay(99)", 99);
        LONG.gives("lunarDay(100)", 0);
        LONG.gives("lunarDay(-1)", 99);
        LONG.gives("lunarDay(-100)", 0);
        LONG.gives("lunarDay(-101)", 99);
        LONG.gives("lunarDay(1000000)", 0);
        LONG.gives("lunarDay(-1000000)", 0);

        Sentences.hold(DAY_OUT);
        Scenes.refusesDays(NEW, "lunarDay(%d)");
        Scenes.refusesDays(TOLD, "lunarDay(%d)");
        Scenes.refusesDays(LONG, "lunarDay(%d)");
    }

    private static void monthBegin() {
        Sentences.under("Promise 19: monthBegin");

        Sentences.hold("Returns the first day of a month: the first one that has this month.");
        NEW.gives("monthBegin(0)", 0);
        NEW.gives("monthBegin(1)", 30);
        NEW.gives("monthBegin(2)", 60);
        NEW.gives("monthBegin(3)", 89);
        NEW.gives("monthBegin(-1)", -29);
        NEW.gives("monthBegin(-2)", -59);
        NEW.gives("monthBegin(-3)", -88);
        NEW.gives("monthBegin(48)", 1418);
        NEW.gives("monthBegin(49)", 1447);
        NEW.gives("monthBegin(50)", 1477);
        NEW.gives("monthBegin(-49)", -1447);
        TOLD.gives("monthBegin(-2)", -62);
        TOLD.gives("monthBegin(-1)", -32);
        TOLD.gives("monthBegin(0)", -3);
        TOLD.gives("monthBegin(1)", 27);
        TOLD.gives("monthBegin(2)", 56);
        SHORT.gives("monthBegin(1)", 2);
        SHORT.gives("monthBegin(-1)", -2);
        LONG.gives("monthBegin(1)", 100);
        LONG.gives("monthBegin(-1)", -100);
        // a month of 29.01 days: from month 1 on it begins within a day, with month 100 again with one
        Scene hundredths = NEW.after("setMoon(2901, 100, 0)");
        hundredths.gives("monthBegin(1)", 30);
        hundredths.gives("monthBegin(99)", 2872);
        hundredths.gives("monthBegin(100)", 2901);
        hundredths.gives("monthBegin(101)", 2931);
        hundredths.gives("monthBegin(-1)", -29);
        hundredths.gives("monthBegin(-99)", -2871);
        hundredths.gives("monthBegin(-100)", -2901);
        beginsEachMonth(NEW, TOLD, SHORT, LONG, hundredths);

        Sentences.hold("- `month`: -100000 to 100000");
        NEW.gives("monthBegin(100000)", 2953062);
        NEW.gives("monthBegin(-100000)", -2953061);
        LONG.gives("monthBegin(100000)", 10000000);
        LONG.gives("monthBegin(-100000)", -10000000);
        LONG.after("setMoon(10000, 100, -1000)").gives("monthBegin(100000)", 10001000);
        LONG.after("setMoon(10000, 100, 1000)").gives("monthBegin(-100000)", -10001000);
        LONG.after("setMoon(9999, 100, 0)").gives("monthBegin(99999)", 9998901);
        LONG.after("setMoon(9999, 100, 0)").gives("monthBegin(-99999)", -9998900);
        SHORT.gives("monthBegin(100000)", 200000);
        SHORT.gives("monthBegin(-100000)", -200000);
        NEW.refusesArgument("monthBegin(100001)", "monthBegin(-100001)");

        Sentences.hold("Throws `IllegalArgumentException` if month is out of range");
        Scenes.refusesOutside(NEW, "monthBegin(%d)", -100000, 100000);
        Scenes.refusesOutside(TOLD, "monthBegin(%d)", -100000, 100000);
        Scenes.refusesOutside(SHORT, "monthBegin(%d)", -100000, 100000);
    }

    /** A month's first day has this month and the lunar day 0; the day ahead has the month ahead. */
    private static void beginsEachMonth(Scene... scenes) {
        for (Scene scene : scenes) {
            MarketWeeks x = scene.made();
            for (int month = -50; month <= 50; month++) {
                int asked = month;
                int begin = x.monthBegin(month);
                Check.gives(scene + "the month of monthBegin(" + month + ")", () -> x.month(begin), asked);
                Check.gives(scene + "the month ahead of it", () -> x.month(begin - 1), asked - 1);
                Check.gives(scene + "its lunar day", () -> x.lunarDay(begin), 0);
            }
        }
    }

    private static void year() {
        Sentences.under("Promise 20: year");

        Sentences.hold("Returns the year of a day.");
        NEW.gives("year(0)", 0);
        NEW.gives("year(364)", 0);
        NEW.gives("year(365)", 1);
        NEW.gives("year(1459)", 3);
        NEW.gives("year(1460)", 4);
        NEW.gives("year(1825)", 4);
        NEW.gives("year(1826)", 5);
        NEW.gives("year(-1)", -1);
        NEW.gives("year(-366)", -1);
        NEW.gives("year(-367)", -2);
        NEW.gives("year(-731)", -2);
        NEW.gives("year(-732)", -3);
        // the cycle of 33 years begins again
        NEW.gives("year(12052)", 32);
        NEW.gives("year(12053)", 33);
        NEW.gives("year(12417)", 33);
        NEW.gives("year(12418)", 34);
        NEW.gives("year(-12053)", -33);
        NEW.gives("year(-12054)", -34);
        NEW.gives("year(1000000)", 2737);
        NEW.gives("year(-1000000)", -2738);
        TOLD.gives("year(1080)", 2);
        TOLD.gives("year(1081)", 3);
        TOLD.gives("year(-720)", -2);
        TOLD.gives("year(-721)", -3);
        TOLD.gives("year(-1081)", -3);
        TOLD.gives("year(-1082)", -4);
        SHORT.gives("year(99)", 0);
        SHORT.gives("year(100)", 1);
        SHORT.gives("year(-100)", -1);
        SHORT.gives("year(-101)", -2);
        SHORT.gives("year(1000000)", 10000);
        SHORT.gives("year(999999)", 9999);
        SHORT.gives("year(-1000000)", -10000);
        LONG.gives("year(500)", 0);
        LONG.gives("year(501)", 1);
        LONG.gives("year(-501)", -1);
        LONG.gives("year(-502)", -2);
        LONG.gives("year(1000000)", 1996);
        LONG.gives("year(-1000000)", -1997);

        Sentences.hold(DAY_OUT);
        Scenes.refusesDays(NEW, "year(%d)");
        Scenes.refusesDays(TOLD, "year(%d)");
        Scenes.refusesDays(SHORT, "year(%d)");
        Scenes.refusesDays(LONG, "year(%d)");
    }

    private static void placeInYear() {
        Sentences.under("Promise 21: placeInYear");

        Sentences.hold("Returns the place of a day in its year.");
        NEW.gives("placeInYear(0)", 0);
        NEW.gives("placeInYear(1)", 1);
        NEW.gives("placeInYear(364)", 364);
        NEW.gives("placeInYear(365)", 0);
        NEW.gives("placeInYear(1460)", 0);
        NEW.gives("placeInYear(1825)", 365);
        NEW.gives("placeInYear(1826)", 0);
        NEW.gives("placeInYear(-1)", 365);
        NEW.gives("placeInYear(-366)", 0);
        NEW.gives("placeInYear(-367)", 364);
        NEW.gives("placeInYear(12052)", 365);
        NEW.gives("placeInYear(12053)", 0);
        NEW.gives("placeInYear(-12053)", 0);
        // year -34 is 32 modulo 33, a leap year
        NEW.gives("placeInYear(-12054)", 365);
        NEW.gives("placeInYear(1000000)", 332);
        NEW.gives("placeInYear(-1000000)", 34);
        TOLD.gives("placeInYear(1080)", 360);
        TOLD.gives("placeInYear(1081)", 0);
        TOLD.gives("placeInYear(-721)", 360);
        TOLD.gives("placeInYear(-720)", 0);
        SHORT.gives("placeInYear(1000000)", 0);
        SHORT.gives("placeInYear(999999)", 99);
        SHORT.gives("placeInYear(-1000000)", 0);
        SHORT.gives("placeInYear(-1)", 99);
        LONG.gives("placeInYear(500)", 500);
        LONG.gives("placeInYear(501)", 0);
        LONG.gives("placeInYear(-1)", 500);
        LONG.gives("placeInYear(-501)", 0);
        LONG.gives("placeInYear(1000000)", 4);
        LONG.gives("placeInYear(-1000000)", 497);

        Sentences.hold(DAY_OUT);
        Scenes.refusesDays(NEW, "placeInYear(%d)");
        Scenes.refusesDays(TOLD, "placeInYear(%d)");
        Scenes.refusesDays(SHORT, "placeInYear(%d)");
        Scenes.refusesDays(LONG, "placeInYear(%d)");
    }

    private static void isLeap() {
        Sentences.under("Promise 22: isLeap");

        Sentences.hold("Tells whether a year is a leap year.");
        boolean[] leap = new boolean[33];
        for (int year : new int[] {4, 8, 12, 16, 20, 24, 28, 32}) {
            leap[year] = true;
        }
        for (int year = -35; year <= 35; year++) {
            NEW.tells("isLeap(" + year + ")", leap[Math.floorMod(year, 33)]);
        }
        TOLD.tells("isLeap(-4)", false);
        TOLD.tells("isLeap(-3)", true);
        TOLD.tells("isLeap(-2)", false);
        TOLD.tells("isLeap(1)", false);
        TOLD.tells("isLeap(2)", true);
        TOLD.tells("isLeap(3)", false);
        SHORT.tells("isLeap(0)", false);
        SHORT.tells("isLeap(-1)", false);
        LONG.tells("isLeap(0)", true);
        LONG.tells("isLeap(-1)", true);

        Sentences.hold(YEAR);
        // 10000 is 1 modulo 33, and -10000 is 32
        NEW.tells("isLeap(10000)", false);
        NEW.tells("isLeap(9998)", true);
        NEW.tells("isLeap(-10000)", true);
        NEW.tells("isLeap(-9999)", false);
        LONG.tells("isLeap(10000)", true);
        LONG.tells("isLeap(-10000)", true);
        SHORT.tells("isLeap(10000)", false);
        SHORT.tells("isLeap(-10000)", false);
        NEW.refusesArgument("isLeap(10001)", "isLeap(-10001)");

        Sentences.hold(YEAR_OUT);
        Scenes.refusesYears(NEW, "isLeap(%d)");
        Scenes.refusesYears(TOLD, "isLeap(%d)");
        Scenes.refusesYears(LONG, "isLeap(%d)");
    }

    private static void dayOf() {
        Sentences.under("Promise 23: dayOf");

        Sentences.hold("Returns the day with a place in a year.");
        NEW.gives("dayOf(0, 0)", 0);
        NEW.gives("dayOf(0, 5)", 5);
        NEW.gives("dayOf(0, 364)", 364);
        NEW.gives("dayOf(1, 0)", 365);
        NEW.gives("dayOf(4, 0)", 1460);
        NEW.gives("dayOf(4, 365)", 1825);
        NEW.gives("dayOf(5, 0)", 1826);
        NEW.gives("dayOf(-1, 0)", -366);
        NEW.gives("dayOf(-1, 365)", -1);
        NEW.gives("dayOf(-2, 364)", -367);
        NEW.gives("dayOf(32, 365)", 12052);
        NEW.gives("dayOf(33, 0)", 12053);
        NEW.gives("dayOf(-33, 0)", -12053);
        TOLD.gives("dayOf(2, 360)", 1080);
        TOLD.gives("dayOf(3, 0)", 1081);
        TOLD.gives("dayOf(-3, 360)", -721);
        TOLD.gives("dayOf(-3, 0)", -1081);
        SHORT.gives("dayOf(-1, 99)", -1);
        LONG.gives("dayOf(-1, 500)", -1);

        Sentences.hold(YEAR);
        NEW.gives("dayOf(10000, 0)", 3652424);
        NEW.gives("dayOf(10000, 364)", 3652788);
        NEW.gives("dayOf(-10000, 0)", -3652425);
        NEW.gives("dayOf(-10000, 365)", -3652060);
        SHORT.gives("dayOf(10000, 0)", 1000000);
        SHORT.gives("dayOf(10000, 99)", 1000099);
        SHORT.gives("dayOf(-10000, 0)", -1000000);
        LONG.gives("dayOf(10000, 500)", 5010500);
        LONG.gives("dayOf(-10000, 0)", -5010000);
        NEW.refusesArgument("dayOf(10001, 0)", "dayOf(-10001, 0)", "dayOf(10001, 364)", "dayOf(-10001, 364)");

        Sentences.hold("- `place`: 0 to the number of days of the year, minus 1");
        NEW.takes("dayOf(3, 364)", "dayOf(4, 365)", "dayOf(-1, 365)", "dayOf(-2, 364)", "dayOf(-10000, 365)",
                "dayOf(10000, 364)");
        NEW.refusesArgument("dayOf(3, -1)", "dayOf(3, 365)", "dayOf(4, -1)", "dayOf(4, 366)", "dayOf(5, 365)",
                "dayOf(-1, 366)", "dayOf(-1, -1)", "dayOf(-2, 365)", "dayOf(-10000, 366)",
                "dayOf(10000, 365)");
        TOLD.refusesArgument("dayOf(2, 361)", "dayOf(3, 360)", "dayOf(1, 360)", "dayOf(-3, 361)",
                "dayOf(-2, 360)");
        TOLD.takes("dayOf(2, 360)", "dayOf(3, 359)", "dayOf(1, 359)", "dayOf(-3, 360)", "dayOf(-2, 359)");
        SHORT.refusesArgument("dayOf(0, 100)", "dayOf(0, -1)");
        SHORT.takes("dayOf(0, 99)", "dayOf(0, 0)");
        LONG.refusesArgument("dayOf(0, 501)", "dayOf(0, -1)");
        LONG.takes("dayOf(0, 500)", "dayOf(0, 0)");

        Sentences.hold("Throws `IllegalArgumentException` if an argument is out of range");
        Scenes.refusesYears(NEW, "dayOf(%d, 0)");
        Scenes.refusesYears(TOLD, "dayOf(%d, 359)");
        Scenes.refusesOutside(NEW, "dayOf(0, %d)", 0, 364);
        Scenes.refusesOutside(NEW, "dayOf(4, %d)", 0, 365);
        NEW.refusesArgument("dayOf(10001, 365)", "dayOf(-2147483648, -2147483648)",
                "dayOf(2147483647, 2147483647)");
    }

    private static void timesInYear() {
        Sentences.under("Promise 24: timesInYear");

        Sentences.hold("Returns how often a market is held in a year.");
        Scene edges = NEW.after("addMarket(1, 0)", "addMarket(60, 0)", "addMarket(60, 4)", "addMarket(60, 5)",
                "addMarket(60, 59)");
        edges.gives("timesInYear(0, 0)", 365);
        edges.gives("timesInYear(0, 3)", 365);
        edges.gives("timesInYear(0, 4)", 366);
        edges.gives("timesInYear(0, 5)", 365);
        edges.gives("timesInYear(0, -1)", 366);
        edges.gives("timesInYear(0, -2)", 365);
        edges.gives("timesInYear(0, 32)", 366);
        edges.gives("timesInYear(0, 33)", 365);
        // the first day, 0, and the last one, 364, count; day -1 and day 365 do not
        edges.gives("timesInYear(1, 0)", 7);
        edges.gives("timesInYear(2, 0)", 7);
        edges.gives("timesInYear(3, 0)", 6);
        edges.gives("timesInYear(4, 0)", 6);
        // year -1 is from day -366, which is 54 modulo 60, to day -1
        Scene ahead = NEW.after("addMarket(60, 59)", "addMarket(60, 54)", "addMarket(60, 53)", "addMarket(60, 0)");
        ahead.gives("timesInYear(0, -1)", 7);
        ahead.gives("timesInYear(1, -1)", 7);
        ahead.gives("timesInYear(2, -1)", 6);
        ahead.gives("timesInYear(3, -1)", 6);
        // year 4 is from day 1460, which is 20 modulo 60, to day 1825, which is 25
        Scene leap = NEW.after("addMarket(60, 20)", "addMarket(60, 25)", "addMarket(60, 19)", "addMarket(60, 26)");
        leap.gives("timesInYear(0, 4)", 7);
        leap.gives("timesInYear(1, 4)", 7);
        leap.gives("timesInYear(2, 4)", 6);
        leap.gives("timesInYear(3, 4)", 6);
        SIX.gives("timesInYear(0, 0)", 52);
        TOLD.gives("timesInYear(0, 2)", 51);
        FULL.gives("timesInYear(15, 0)", 22);
        SHORT.gives("timesInYear(0, 0)", 100);
        LONG.gives("timesInYear(0, 0)", 501);
        NEW.after("addMarket(60, 59)", "setYear(100, 0, 0, 1)").gives("timesInYear(0, 0)", 1);
        NEW.after("addMarket(60, 59)", "setYear(100, 0, 0, 1)").gives("timesInYear(0, 1)", 2);

        Sentences.hold(YEAR);
        edges.gives("timesInYear(0, 10000)", 365);
        edges.gives("timesInYear(0, -10000)", 366);
        edges.gives("timesInYear(0, 9998)", 366);
        SHORT.gives("timesInYear(0, 10000)", 100);
        SHORT.gives("timesInYear(0, -10000)", 100);
        LONG.gives("timesInYear(0, 10000)", 501);
        LONG.gives("timesInYear(0, -10000)", 501);
        // year 10000 is from 44 modulo 60 on to 48, year -10000 from 15 to 20
        Scene last = NEW.after("addMarket(60, 44)", "addMarket(60, 48)", "addMarket(60, 43)", "addMarket(60, 49)");
        last.gives("timesInYear(0, 10000)", 7);
        last.gives("timesInYear(1, 10000)", 7);
        last.gives("timesInYear(2, 10000)", 6);
        last.gives("timesInYear(3, 10000)", 6);
        Scene first = NEW.after("addMarket(60, 15)", "addMarket(60, 20)", "addMarket(60, 14)", "addMarket(60, 21)");
        first.gives("timesInYear(0, -10000)", 7);
        first.gives("timesInYear(1, -10000)", 7);
        first.gives("timesInYear(2, -10000)", 6);
        first.gives("timesInYear(3, -10000)", 6);
        SIX.refusesArgument("timesInYear(0, 10001)", "timesInYear(0, -10001)");

        Sentences.hold("Throws `IndexOutOfBoundsException` if there is no such market");
        Scenes.refusesMarkets("timesInYear(%d, 0)");
        Scenes.refusesMarkets("timesInYear(%d, -10000)");
        Scenes.refusesMarkets("timesInYear(%d, 10000)");

        Sentences.hold(YEAR_OUT);
        Scenes.refusesYears(SIX, "timesInYear(0, %d)");
        Scenes.refusesYears(TOLD, "timesInYear(5, %d)");
        Scenes.refusesYears(Scenes.FULL_TOLD, "timesInYear(15, %d)");
    }
}
