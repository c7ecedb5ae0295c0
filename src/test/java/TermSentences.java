/** The sentences of "What it is" and "Terms", which hold for several promises at once. */
final class TermSentences {
    /** Each method that is given a day, with each argument that is one; the others are in range. */
    private static final String[] GIVEN_DAYS = {
        "isHeld(0, %d)", "next(0, %d)", "nearest(0, %d)", "times(0, %1$d, %1$d)", "heldOn(%d)",
        "meeting(3, %d)", "lunarMeeting(3, %d, 0, 1)", "best(3, %1$d, %1$d)", "month(%d)", "lunarDay(%d)",
        "year(%d)", "placeInYear(%d)",
    };

    private static final int MOST_CALLS = 512;

    private static final Scene NEW = Scene.NEW;
    private static final Scene SIX = Scenes.SIX;
    private static final Scene TOLD = Scenes.TOLD;
    private static final Scene FULL = Scenes.FULL;
    private static final Scene FULL_TOLD = Scenes.FULL_TOLD;

    private TermSentences() {
    }

    static void look() {
        whatItIs();
        days();
        numbers();
        exceptions();
        markets();
        moon();
        year();
    }

    private static void whatItIs() {
        Sentences.under("What it is");

        Sentences.hold("Calendars of markets: cycles of days of several lengths that run beside one another,"
                + " days on which markets meet, lunar months with fractions, leap years by a rule, nearest"
                + " dates, and the best date for several markets.");
        SIX.gives("heldOn(10)", 1 | 2 | 8);
        SIX.gives("meeting(3, 0)", 10);
        SIX.gives("monthBegin(1)", 30);
        SIX.tells("isLeap(4)", true);
        SIX.gives("nearest(0, 6)", 3);
        SIX.gives("best(31, 0, 60)", 10);

        Sentences.hold("An object is used for at most 512 calls after it has been made; what later calls"
                + " answer is free.");
        // the first call tells a market, the last one is looked at
        lastCallGives("shift(0, 1)", "shift(0, 1)", (3 + 511) % 7);
        lastCallGives("shift(0, -60)", "next(0, 0)", Math.floorMod(3 - 510 * 60, 7));
        lastCallGives("addMarket(7, 7)", "markets()", 1);
        lastCallGives("shift(0, 61)", "addMarket(60, 59)", 1);
        lastCallGives("addMarket(60, 59)", "markets()", 16);
        lastCallGives("addMarket(60, 59)", "heldOn(59)", 0xffff);
        lastCallGives("best(1, -1000, 1000)", "best(1, 4, 2004)", 10);
        lastCallGives("lunarMeeting(1, 0, 99, 1000)", "lunarMeeting(1, 0, 3, 1000)", 3);
        lastCallGives("meeting(2, 0)", "meeting(1, 4)", 10);
        lastCallGives("period(0)", "period(1)", 7);
        lastCallGives("setMoon(59, 2, 3)", "monthBegin(1)", 27);
        lastCallGives("setMoon(0, 0, 0)", "monthBegin(49)", 1447);
        lastCallGives("setYear(360, 1, 2, 5)", "dayOf(3, 0)", 1081);
        lastCallGives("setYear(0, 0, 0, 0)", "timesInYear(0, 0)", 52);
        lastCallGives("year(1000000)", "placeInYear(-1000000)", 34);
        lastCallGives("month(-1000000)", "lunarDay(1000000)", 4);
    }

    /** A market is told, a call made 510 times, and the call behind that is the last one. */
    private static void lastCallGives(String between, String last, long due) {
        MarketWeeks x = new MarketWeeks();
        x.addMarket(7, 3);
        Call call = new Call(between);
        for (int made = 1; made < MOST_CALLS - 1; made++) {
            call.outcome(x);
        }
        Check.same("510 times " + between + ", then " + last, new Call(last).outcome(x), Long.toString(due));
    }

    private static void days() {
        Sentences.under("Terms");

        Sentences.hold("Markets and the rules of moon and year are told; then any day can be asked about.");
        TOLD.takes("heldOn(-1000000)", "month(-1000000)", "year(-1000000)", "heldOn(1000000)",
                "month(1000000)", "year(1000000)");
        // to ask tells nothing
        for (String form : GIVEN_DAYS) {
            FULL_TOLD.takes(String.format(form, -1000000));
        }
        FULL_TOLD.gives("markets()", 16);
        FULL_TOLD.gives("monthBegin(1)", 27);
        FULL_TOLD.tells("isLeap(2)", true);
        FULL_TOLD.gives("dayOf(3, 0)", 1081);
        FULL_TOLD.gives("timesInYear(15, 0)", 22);
        FULL_TOLD.tells("doMeet(10)", false);
        FULL_TOLD.gives("period(3)", 2);
        // what is told last is what is asked about
        Scene later = TOLD.after("addMarket(3, 1)", "setMoon(30, 1, 0)", "setYear(365, 8, 0, 33)");
        later.gives("next(6, 0)", 1);
        later.gives("month(29)", 0);
        later.gives("month(30)", 1);
        later.gives("dayOf(33, 0)", 12053);

        Sentences.hold("Days are whole numbers; day 0 is an arbitrary day, days ahead of it are below 0.");
        SIX.tells("isHeld(1, 0)", true);
        SIX.tells("isHeld(1, -5)", true);
        SIX.gives("next(1, -4)", 0);
        SIX.gives("times(1, -5, 5)", 3);
        SIX.gives("month(0)", 0);
        SIX.gives("month(-1)", -1);
        SIX.gives("year(0)", 0);
        SIX.gives("year(-1)", -1);

        Sentences.hold("Wherever a day is given, it is -1000000 to 1000000; days that are returned can be"
                + " outside of this.");
        for (String form : GIVEN_DAYS) {
            Scenes.refusesDays(SIX, form);
            Scenes.refusesDays(TOLD, form);
        }
        SIX.refusesArgument("times(0, -1000001, 0)", "times(0, 0, 1000001)", "best(3, -1000001, -1000000)",
                "best(3, 1000000, 1000001)");
        NEW.refusesArgument("heldOn(1000001)", "heldOn(-1000001)", "best(0, 1000001, 1000001)");
        SIX.gives("next(0, 1000000)", 1000002);
        NEW.after("addMarket(60, 10)").gives("nearest(0, 999999)", 999970);
        NEW.after("addMarket(60, 41)").gives("nearest(0, 1000000)", 1000001);
        NEW.after("addMarket(60, 19)").gives("nearest(0, -1000000)", -1000001);
        SIX.gives("meeting(3, 1000000)", 1000030);
        SIX.gives("lunarMeeting(3, 1000000, 4, 1)", -1);
        SIX.gives("lunarMeeting(3, 1000000, 5, 1)", 30);
        SIX.gives("monthBegin(100000)", 2953062);
        SIX.gives("monthBegin(-100000)", -2953061);
        SIX.gives("dayOf(10000, 364)", 3652788);
        SIX.gives("dayOf(-10000, 0)", -3652425);
    }

    private static void numbers() {
        Sentences.hold("Divisions are rounded down to the lesser number, also below 0, and \"modulo\" is what"
                + " is left then, from 0 on.");
        // markets: -1 modulo 7 is 6, -7 modulo 7 is 0
        NEW.after("addMarket(7, 6)").tells("isHeld(0, -1)", true);
        NEW.after("addMarket(7, 0)").tells("isHeld(0, -7)", true);
        NEW.after("addMarket(7, 1)").tells("isHeld(0, -1)", false);
        NEW.after("addMarket(7, 1)").tells("isHeld(0, -6)", true);
        SIX.gives("shift(0, -4)", 6);
        SIX.gives("shift(0, -10)", 0);
        // the month: -49 / 1447 is -1, -1447 * 49 / 1447 is -49, and less is -50
        NEW.gives("month(-1)", -1);
        NEW.gives("month(-1447)", -49);
        NEW.gives("month(-1448)", -50);
        // the lunar day: -49 modulo 1447 is 1398, and 1398 / 49 is 28
        NEW.gives("lunarDay(-1)", 28);
        NEW.gives("lunarDay(-1447)", 0);
        // the year: 8 * -1 / 33 is -1, 8 * -33 / 33 is -8, and 8 * -34 / 33 is -9
        NEW.gives("dayOf(-1, 0)", -366);
        NEW.gives("dayOf(-33, 0)", -12053);
        NEW.gives("dayOf(-34, 0)", -12419);
        // -8 modulo 33 is 25, and that is 33 - 8
        NEW.tells("isLeap(-1)", true);
        NEW.tells("isLeap(-33)", false);
        NEW.gives("year(-366)", -1);
        NEW.gives("year(-367)", -2);
        NEW.gives("placeInYear(-1)", 365);
        // a moon that is shifted below 0
        NEW.after("setMoon(59, 2, -3)").gives("month(2)", -1);
        NEW.after("setMoon(59, 2, -3)").gives("lunarDay(2)", 28);
        NEW.after("setMoon(59, 2, -3)").gives("month(3)", 0);
    }

    private static void exceptions() {
        Sentences.hold("A method throws IndexOutOfBoundsException if there is no such market,"
                + " IllegalArgumentException if another argument is out of range, and IllegalStateException as"
                + " it documents; if several apply, the one that it lists first is thrown.");
        FULL.refusesState("addMarket(7, 3)");
        FULL.refusesArgument("addMarket(0, 0)", "addMarket(61, 0)", "addMarket(7, 7)", "addMarket(7, -1)");
        SIX.refusesBounds("shift(6, 61)", "shift(-1, -61)", "isHeld(6, 1000001)", "isHeld(-1, -1000001)",
                "next(6, 1000001)", "next(-1, -1000001)", "nearest(6, 1000001)", "nearest(-1, -1000001)",
                "times(6, 1000001, 1000001)", "times(6, -1000001, 0)", "times(6, 0, 1000001)",
                "times(-1, 1, 0)", "timesInYear(6, 10001)", "timesInYear(-1, -10001)");
        NEW.refusesBounds("shift(0, 61)", "isHeld(0, 1000001)", "next(0, 1000001)", "nearest(0, 1000001)",
                "times(0, 1, 0)", "timesInYear(0, 10001)");
        FULL.refusesBounds("shift(16, 61)", "isHeld(16, 1000001)", "next(16, 1000001)",
                "nearest(16, 1000001)", "times(16, 1, 0)", "timesInYear(16, 10001)");
        // six bits, of which one or all stand for no market; five of which one does and two never meet
        SIX.refusesArgument("doMeet(95)", "doMeet(4032)", "period(95)", "period(4032)", "meeting(95, 0)",
                "meeting(4032, 0)", "lunarMeeting(95, 0, 0, 1)", "lunarMeeting(4032, 0, 0, 1)");
        SIX.refusesBounds("doMeet(90)", "period(88)", "period(90)", "meeting(88, 0)", "meeting(90, 0)",
                "lunarMeeting(88, 0, 0, 1)", "lunarMeeting(90, 0, 0, 1)");
        // six that never meet, and six bits without any market
        SIX.refusesArgument("period(63)", "meeting(63, 0)", "lunarMeeting(63, 0, 0, 1)");
        NEW.refusesArgument("doMeet(63)", "period(63)", "meeting(63, 0)", "lunarMeeting(63, 0, 0, 1)");
        // another argument out of range, with a bit of no market or with markets that never meet
        SIX.refusesArgument("meeting(64, 1000001)", "meeting(24, -1000001)", "meeting(88, 1000001)",
                "lunarMeeting(64, 1000001, 0, 1)", "lunarMeeting(64, 0, 100, 1)",
                "lunarMeeting(64, 0, -1, 1)", "lunarMeeting(64, 0, 0, 0)", "lunarMeeting(64, 0, 0, 1001)",
                "lunarMeeting(24, -1000001, 0, 1)", "lunarMeeting(24, 0, 100, 1)",
                "lunarMeeting(24, 0, -1, 1)", "lunarMeeting(24, 0, 0, 0)", "lunarMeeting(24, 0, 0, 1001)",
                "best(64, 1, 0)", "best(64, 0, 2001)", "best(64, 1000001, 1000001)",
                "best(-1, -1000001, -1000000)");
        NEW.refusesArgument("meeting(1, 1000001)", "lunarMeeting(1, 0, 100, 1)", "best(1, 1, 0)");

        Sentences.hold("A call that throws changes nothing.");
        // each call that tells something, refused for each argument, where the others would be news
        TOLD.refusesArgument("addMarket(0, 0)", "addMarket(61, 5)", "addMarket(9, 9)", "addMarket(9, -1)",
                "shift(0, 61)", "shift(5, -61)", "setMoon(39, 20, 7)", "setMoon(2001, 20, 7)",
                "setMoon(3000, 101, 7)", "setMoon(0, 0, 7)", "setMoon(600, 20, 1001)",
                "setMoon(600, 20, -1001)", "setYear(99, 3, 1, 7)", "setYear(501, 3, 1, 7)",
                "setYear(400, 8, 1, 7)", "setYear(400, -1, 1, 7)", "setYear(400, 3, 7, 7)",
                "setYear(400, 3, -1, 7)", "setYear(400, 0, 0, 0)", "setYear(400, 3, 1, 401)");
        TOLD.refusesBounds("shift(6, 1)", "shift(-1, 1)");
        FULL_TOLD.refusesState("addMarket(9, 2)");
        // many refusals, one behind the other
        MarketWeeks x = TOLD.made();
        for (int i = 0; i < 20; i++) {
            for (Call call : Call.all("addMarket(61, 0)", "shift(6, 1)", "shift(0, 61)", "setMoon(1, 1, 9)",
                    "setYear(400, 3, 7, 7)", "period(24)", "meeting(64, 0)", "best(0, 1, 0)")) {
                call.outcome(x);
            }
        }
        TOLD.isAsBefore("160 refusals", x);
    }

    private static void markets() {
        Sentences.under("Markets");

        Sentences.hold("There are at most 16 markets, numbered from 0.");
        NEW.refusesBounds("next(0, 0)");
        NEW.gives("addMarket(7, 3)", 0);
        SIX.gives("next(0, 0)", 3);
        SIX.gives("next(5, 0)", 59);
        SIX.refusesBounds("next(6, 0)", "next(-1, 0)");
        FULL.gives("markets()", 16);
        FULL.gives("next(0, 0)", 0);
        FULL.gives("next(15, 0)", 15);
        FULL.refusesBounds("next(16, 0)");
        FULL.refusesState("addMarket(7, 3)");

        Sentences.hold("A market has a length and a place, and is held on the days d for which d modulo the"
                + " length is the place.");
        for (int[] market : new int[][] {{1, 0}, {2, 0}, {2, 1}, {7, 0}, {7, 6}, {60, 0}, {60, 59}}) {
            Scene scene = NEW.after("addMarket(" + market[0] + ", " + market[1] + ")");
            for (int day : new int[] {-1000000, -61, -60, -7, -2, -1, 0, 1, 2, 6, 7, 59, 60, 119, 1000000}) {
                scene.tells("isHeld(0, " + day + ")", Math.floorMod(day, market[0]) == market[1]);
            }
        }

        Sentences.hold("Sets of markets are bit masks: bit m stands for the market m.");
        for (int market = 0; market < 16; market++) {
            FULL.gives("period(" + (1 << market) + ")", market + 1);
            FULL.gives("meeting(" + (1 << market) + ", 0)", market);
            FULL.tells("doMeet(" + (1 << market) + ")", true);
            Scene later = FULL.after("shift(" + market + ", 1)");
            later.gives("heldOn(-1)", market == 0 ? 0xffff : 0xffff & ~(1 << market));
        }
        FULL.gives("best(32769, 0, 20)", 15);
        FULL.gives("best(16385, 0, 20)", 14);
        // the bits behind the last market, and the sign
        FULL.refusesBounds("doMeet(65536)", "doMeet(1073741824)", "doMeet(-2147483648)", "best(65536, 0, 0)",
                "best(-2147483648, 0, 0)");

        Sentences.hold("Some markets meet on a day, if all of them are held.");
        for (int day = -40; day <= 40; day++) {
            int held = SIX.made().heldOn(day);
            long ahead = SIX.made().meeting(3, day);
            Check.is("0 and 1 meet on day " + day, () -> (held & 3) == 3, ahead == day);
        }
        SIX.gives("heldOn(45)", 1 | 2 | 4);
        SIX.gives("meeting(7, 11)", 45);
        SIX.gives("meeting(7, 45)", 45);
        SIX.gives("meeting(7, 46)", 115);
        SIX.gives("period(7)", 70);
    }

    private static void moon() {
        Sentences.under("Moon");

        Sentences.hold("A lunar month has num / den days, 1447 / 49 at first, and there is a shift in days, 0 at"
                + " first.");
        NEW.gives("monthBegin(0)", 0);
        NEW.gives("monthBegin(49)", 1447);
        NEW.gives("monthBegin(48)", 1418);
        NEW.after("setMoon(1447, 49, 0)").gives("monthBegin(100000)", NEW.made().monthBegin(100000));
        NEW.after("setMoon(1447, 49, 1)").gives("monthBegin(49)", 1446);
        NEW.after("setMoon(1447, 49, -1)").gives("monthBegin(49)", 1448);
        NEW.after("setMoon(1448, 49, 0)").gives("monthBegin(49)", 1448);
        NEW.after("setMoon(1447, 50, 0)").gives("monthBegin(50)", 1447);

        Sentences.hold("The month of the day d is (d + shift) * den / num; its lunar day is ((d + shift) * den"
                + " modulo num) / den, so the first lunar day of a month is 0.");
        for (int[] rule : new int[][] {{1447, 49, 0}, {59, 2, 3}, {2, 1, -1000}, {10000, 100, 1000}, {199, 99, -7}}) {
            Scene scene = NEW.after("setMoon(" + rule[0] + ", " + rule[1] + ", " + rule[2] + ")");
            for (int day : new int[] {-1000000, -1001, -1000, -999, -31, -30, -1, 0, 1, 29, 30, 999, 1000, 1001,
                    1000000}) {
                long parts = (day + (long) rule[2]) * rule[1];
                scene.gives("month(" + day + ")", Math.floorDiv(parts, rule[0]));
                scene.gives("lunarDay(" + day + ")", Math.floorMod(parts, rule[0]) / rule[1]);
            }
            MarketWeeks x = scene.made();
            for (int month = -100; month <= 100; month++) {
                int begin = x.monthBegin(month);
                Check.gives(scene + "lunar day of monthBegin(" + month + ")", () -> x.lunarDay(begin), 0);
            }
        }
        // these begin 23 and 26 parts of 49 behind their month, and that is rounded down
        NEW.gives("lunarDay(30)", 0);
        NEW.gives("lunarDay(1418)", 0);
        NEW.gives("lunarDay(1417)", 29);
    }

    private static void year() {
        Sentences.under("Year");

        Sentences.hold("A year has a common length, 365 at first, and one day more if it is a leap year.");
        NEW.takes("dayOf(3, 364)", "dayOf(4, 365)");
        NEW.refusesArgument("dayOf(3, 365)", "dayOf(4, 366)");
        Scene one = NEW.after("addMarket(1, 0)");
        one.gives("timesInYear(0, 3)", 365);
        one.gives("timesInYear(0, 4)", 366);
        one.after("setYear(100, 8, 0, 33)").gives("timesInYear(0, 3)", 100);
        one.after("setYear(100, 8, 0, 33)").gives("timesInYear(0, 4)", 101);
        one.after("setYear(500, 8, 0, 33)").gives("timesInYear(0, 4)", 501);
        one.after("setYear(365, 8, 0, 33)").gives("timesInYear(0, 4)", 366);

        Sentences.hold("The rule has three numbers a, b and c, at first 8, 0 and 33: the year y is a leap year,"
                + " if (a * y + b) modulo c is at least c - a.");
        // 8 * 4 is 32; 8 * 29 is 1 modulo 33, 8 * 32 is 25, which is just 33 - 8, and 8 * 28 is 26
        NEW.tells("isLeap(32)", true);
        NEW.tells("isLeap(28)", true);
        NEW.tells("isLeap(3)", false);
        NEW.tells("isLeap(29)", false);
        // 7 * 8 is 24 modulo 32, and 7 * 31 is 25, which is just 32 - 7
        Scene sides = NEW.after("setYear(365, 7, 0, 32)");
        sides.tells("isLeap(8)", false);
        sides.tells("isLeap(31)", true);
        sides.after("setYear(365, 7, 1, 32)").tells("isLeap(8)", true);
        leapYears(8, 0, 33);
        leapYears(0, 4, 5);
        leapYears(5, 0, 5);
        leapYears(1, 3, 4);
        leapYears(1, 0, 1);
        leapYears(0, 0, 1);
        leapYears(97, 399, 400);

        Sentences.hold("The year y begins with the day common * y + (a * y + b) / c.");
        NEW.gives("dayOf(0, 0)", 0);
        NEW.gives("dayOf(4, 0)", 1460);
        NEW.gives("dayOf(5, 0)", 1826);
        NEW.gives("dayOf(-1, 0)", -366);
        beginnings(365, 8, 0, 33);
        beginnings(100, 0, 0, 1);
        beginnings(100, 0, 399, 400);
        beginnings(500, 400, 399, 400);
        beginnings(500, 399, 1, 400);
        beginnings(360, 1, 2, 5);

        Sentences.hold("The place of a day in its year is 0 for the first day of the year.");
        for (Scene scene : new Scene[] {NEW, TOLD, NEW.after("setYear(100, 1, 1, 2)")}) {
            MarketWeeks x = scene.made();
            for (int year = -34; year <= 34; year++) {
                int begin = x.dayOf(year, 0);
                int last = begin - 1;
                int ahead = year - 1;
                Check.gives(scene + "place of dayOf(" + year + ", 0)", () -> x.placeInYear(begin), 0);
                Check.gives(scene + "place of the day ahead", () -> x.placeInYear(last), begin - 1 - x.dayOf(ahead, 0));
            }
        }
        NEW.gives("placeInYear(1)", 1);

        Sentences.hold("Years can be below 0.");
        NEW.gives("year(-1)", -1);
        NEW.gives("year(-1000000)", -2738);
        NEW.tells("isLeap(-1)", true);
        NEW.tells("isLeap(-10000)", true);
        NEW.gives("dayOf(-1, 0)", -366);
        NEW.gives("dayOf(-10000, 0)", -3652425);
        NEW.after("addMarket(1, 0)").gives("timesInYear(0, -1)", 366);
        NEW.gives("placeInYear(-366)", 0);

        Sentences.hold("The constants: `NONE = -1`: There is none.");
        Check.gives("NONE", () -> MarketWeeks.NONE, -1);
        SIX.gives("lunarMeeting(3, 0, 99, 1)", MarketWeeks.NONE);
    }

    private static void leapYears(int a, int b, int c) {
        Scene scene = NEW.after("setYear(365, " + a + ", " + b + ", " + c + ")");
        for (int year : new int[] {-10000, -c - 1, -c, -1, 0, 1, 2, 3, 4, c - 1, c, c + 1, 10000}) {
            scene.tells("isLeap(" + year + ")", Math.floorMod(a * year + b, c) >= c - a);
        }
    }

    private static void beginnings(int common, int a, int b, int c) {
        Scene scene = NEW.after("setYear(" + common + ", " + a + ", " + b + ", " + c + ")");
        for (int year : new int[] {-10000, -c - 1, -c, -1, 0, 1, 2, c - 1, c, c + 1, 10000}) {
            int begin = common * year + Math.floorDiv(a * year + b, c);
            scene.gives("dayOf(" + year + ", 0)", begin);
            if (begin > -1000000 && begin <= 1000000) {
                scene.gives("year(" + begin + ")", year);
                scene.gives("year(" + (begin - 1) + ")", year - 1);
                scene.gives("placeInYear(" + begin + ")", 0);
            }
        }
    }
}
