/** Promises 12 to 16: markets that meet. */
final class MeetingSentences {
    private static final String SET = "- `set`: 1 to 5 markets";
    private static final String SET_OUT =
            "Throws `IllegalArgumentException` if set has no bit, or more than 5";
    private static final String NO_MARKET = "Throws `IndexOutOfBoundsException` if a bit stands for no market";
    private static final String NEVER = "Throws `IllegalStateException` if they never meet";

    private static final Scene NEW = Scene.NEW;
    private static final Scene SIX = Scenes.SIX;
    private static final Scene TOLD = Scenes.TOLD;
    private static final Scene FULL = Scenes.FULL;
    private static final Scene FULL_TOLD = Scenes.FULL_TOLD;

    /** Five markets that meet on day -1, with the longest period that five can have: 568582410. */
    private static final Scene RARE = NEW.after("addMarket(59, 58)", "addMarket(58, 57)", "addMarket(57, 56)",
            "addMarket(55, 54)", "addMarket(53, 52)");

    private MeetingSentences() {
    }

    static void look() {
        doMeet();
        period();
        meeting();
        lunarMeeting();
        best();
    }

    private static void doMeet() {
        Sentences.under("Promise 12: doMeet");

        Sentences.hold("Tells whether some markets ever meet.");
        SIX.tells("doMeet(3)", true);
        SIX.tells("doMeet(6)", true);
        SIX.tells("doMeet(24)", false);
        SIX.tells("doMeet(12)", false);
        SIX.tells("doMeet(9)", true);
        SIX.tells("doMeet(33)", true);
        SIX.tells("doMeet(34)", false);
        // the markets 0 and 2 want other days modulo 3, each of them meets the market 1
        Scene thirds = NEW.after("addMarket(6, 1)", "addMarket(10, 1)", "addMarket(15, 11)", "addMarket(15, 1)");
        thirds.tells("doMeet(3)", true);
        thirds.tells("doMeet(6)", true);
        thirds.tells("doMeet(5)", false);
        thirds.tells("doMeet(7)", false);
        thirds.tells("doMeet(11)", true);
        // of five the last alone is in the way, or the first
        Scene last = NEW.after("addMarket(2, 0)", "addMarket(3, 0)", "addMarket(5, 0)", "addMarket(7, 0)",
                "addMarket(60, 59)", "addMarket(60, 0)");
        last.tells("doMeet(31)", false);
        last.tells("doMeet(47)", true);
        last.tells("doMeet(48)", false);
        // the longest two that meet on one of 3540 days, and two alike
        NEW.after("addMarket(60, 0)", "addMarket(59, 58)").tells("doMeet(3)", true);
        NEW.after("addMarket(60, 59)", "addMarket(60, 59)").tells("doMeet(3)", true);
        NEW.after("addMarket(60, 59)", "addMarket(60, 58)").tells("doMeet(3)", false);
        NEW.after("addMarket(60, 59)", "addMarket(30, 29)").tells("doMeet(3)", true);
        NEW.after("addMarket(60, 59)", "addMarket(30, 28)").tells("doMeet(3)", false);
        NEW.after("addMarket(1, 0)", "addMarket(60, 59)").tells("doMeet(3)", true);
        RARE.tells("doMeet(31)", true);
        // told later
        NEW.after("addMarket(4, 2)", "addMarket(6, 1)", "shift(1, 1)").tells("doMeet(3)", true);

        Sentences.hold(SET);
        SIX.tells("doMeet(1)", true);
        SIX.tells("doMeet(32)", true);
        FULL.tells("doMeet(31)", true);
        FULL.tells("doMeet(63488)", true);
        FULL.tells("doMeet(32768)", true);
        FULL_TOLD.refusesArgument("doMeet(0)", "doMeet(63)", "doMeet(64512)");

        Sentences.hold(SET_OUT);
        Scenes.refusesSizes("doMeet(%d)");

        Sentences.hold(NO_MARKET);
        Scenes.refusesBits("doMeet(%d)");
    }

    private static void period() {
        Sentences.under("Promise 13: period");

        Sentences.hold("Returns the period with which some markets meet: from one day on which they meet to"
                + " the next one.");
        SIX.gives("period(3)", 35);
        SIX.gives("period(6)", 10);
        SIX.gives("period(9)", 28);
        SIX.gives("period(33)", 420);
        SIX.gives("period(19)", 210);
        Scene some = NEW.after("addMarket(60, 59)", "addMarket(60, 59)", "addMarket(30, 29)",
                "addMarket(45, 44)", "addMarket(1, 0)", "addMarket(59, 0)");
        some.gives("period(3)", 60);
        some.gives("period(5)", 60);
        some.gives("period(9)", 180);
        some.gives("period(16)", 1);
        some.gives("period(48)", 59);
        some.gives("period(33)", 3540);
        some.gives("period(31)", 180);
        FULL.gives("period(63488)", 12 * 13 * 7 * 5 * 4);
        RARE.gives("period(31)", 568582410);
        RARE.gives("period(15)", 59 * 58 * 57 * 55);
        TOLD.gives("period(3)", 35);

        Sentences.hold(SET);
        SIX.gives("period(1)", 7);
        SIX.gives("period(32)", 60);
        FULL.gives("period(1)", 1);
        FULL.gives("period(32768)", 16);
        FULL.gives("period(31)", 60);
        FULL_TOLD.refusesArgument("period(0)", "period(63)", "period(64512)");

        Sentences.hold(SET_OUT);
        Scenes.refusesSizes("period(%d)");

        Sentences.hold(NO_MARKET);
        Scenes.refusesBits("period(%d)");

        Sentences.hold(NEVER);
        SIX.refusesState("period(24)", "period(31)", "period(12)", "period(34)");
        TOLD.refusesState("period(24)", "period(31)");
        FULL_TOLD.refusesState("period(10)");
        SIX.after("shift(3, 1)").gives("period(24)", 12);
        SIX.after("shift(3, 1)", "shift(3, -1)").refusesState("period(24)");
        NEW.after("addMarket(60, 59)", "addMarket(60, 58)").refusesState("period(3)");
    }

    private static void meeting() {
        Sentences.under("Promise 14: meeting");

        Sentences.hold("Returns the first day from a day on, this one included, on which some markets meet.");
        SIX.gives("meeting(3, 9)", 10);
        SIX.gives("meeting(3, 10)", 10);
        SIX.gives("meeting(3, 11)", 45);
        SIX.gives("meeting(3, 0)", 10);
        SIX.gives("meeting(3, -1)", 10);
        SIX.gives("meeting(3, -24)", 10);
        SIX.gives("meeting(3, -25)", -25);
        SIX.gives("meeting(3, -26)", -25);
        SIX.gives("meeting(6, 0)", 5);
        SIX.gives("meeting(6, 5)", 5);
        SIX.gives("meeting(6, 6)", 15);
        SIX.gives("meeting(6, -5)", -5);
        SIX.gives("meeting(6, -4)", 5);
        FULL.gives("meeting(63488, -1)", -1);
        FULL.gives("meeting(63488, 0)", 21839);
        FULL.gives("meeting(63488, 21840)", 43679);
        RARE.gives("meeting(31, -1)", -1);
        RARE.gives("meeting(31, -2)", -1);
        RARE.gives("meeting(31, -1000000)", -1);
        RARE.gives("meeting(31, 0)", 568582409);
        RARE.gives("meeting(31, 1000000)", 568582409);
        // 1000000 is 15 modulo 35, and -1000000 is 20
        SIX.gives("meeting(3, 1000000)", 1000030);
        SIX.gives("meeting(3, -1000000)", -999975);
        SIX.gives("meeting(2, 1000000)", 1000000);
        SIX.gives("meeting(2, -1000000)", -1000000);
        // all five on day 999999, and next as late as can be
        Scene late = NEW.after("addMarket(59, 8)", "addMarket(58, 21)", "addMarket(57, 48)", "addMarket(55, 44)",
                "addMarket(53, 48)");
        late.gives("meeting(31, 999999)", 999999);
        late.gives("meeting(31, 1000000)", 569582409);
        late.gives("meeting(31, -1000000)", 999999);

        Sentences.hold(SET);
        SIX.gives("meeting(1, 4)", 10);
        SIX.gives("meeting(32, 60)", 119);
        FULL.gives("meeting(1, 4)", 4);
        FULL.gives("meeting(32768, 0)", 15);
        FULL.gives("meeting(31, 0)", 59);
        FULL_TOLD.refusesArgument("meeting(0, 0)", "meeting(63, 0)", "meeting(64512, 0)");

        Sentences.hold("Throws `IllegalArgumentException` if day is out of range, or set has no bit, or more"
                + " than 5");
        Scenes.refusesSizes("meeting(%d, 0)");
        Scenes.refusesDays(TOLD, "meeting(3, %d)");
        Scenes.refusesDays(FULL_TOLD, "meeting(63488, %d)");

        Sentences.hold(NO_MARKET);
        Scenes.refusesBits("meeting(%d, 0)");

        Sentences.hold(NEVER);
        SIX.refusesState("meeting(24, 0)", "meeting(31, 0)", "meeting(12, -1000000)", "meeting(34, 1000000)");
        TOLD.refusesState("meeting(24, 0)");
        FULL_TOLD.refusesState("meeting(10, 0)");
        SIX.after("shift(3, 1)").gives("meeting(24, 0)", 7);
        NEW.after("addMarket(60, 59)", "addMarket(60, 58)").refusesState("meeting(3, 58)");
    }

    private static void lunarMeeting() {
        Sentences.under("Promise 15: lunarMeeting");

        Sentences.hold("Returns the first day from a day on, this one included, on which some markets meet,"
                + " and which has a lunar day; it is looked for on the first days on which they meet.");
        // they meet on the days 10, 45 and 80, which are the lunar days 10, 15 and 20
        SIX.gives("lunarMeeting(3, 0, 10, 3)", 10);
        SIX.gives("lunarMeeting(3, 10, 10, 3)", 0);
        SIX.gives("lunarMeeting(3, 9, 10, 3)", 1);
        SIX.gives("lunarMeeting(3, 0, 15, 3)", 45);
        SIX.gives("lunarMeeting(3, 11, 15, 3)", 34);
        SIX.gives("lunarMeeting(3, 45, 15, 3)", 0);
        SIX.gives("lunarMeeting(3, 0, 20, 3)", 80);
        // day -25 is the lunar day 4
        SIX.gives("lunarMeeting(3, -25, 4, 3)", 0);
        SIX.gives("lunarMeeting(3, -30, 4, 3)", 5);
        SIX.gives("lunarMeeting(3, -25, 10, 3)", 35);
        Scene daily = NEW.after("addMarket(1, 0)", "setMoon(59, 2, 3)");
        // the month 0 begins with day -3 and has 30 days, the month 1 with day 27 and has 29
        daily.gives("lunarMeeting(1, -3, 0, 1000)", 0);
        daily.gives("lunarMeeting(1, -2, 0, 1000)", 29);
        daily.gives("lunarMeeting(1, -2, 29, 1000)", 28);
        daily.gives("lunarMeeting(1, 27, 29, 1000)", 58);

        Sentences.hold(SET);
        SIX.gives("lunarMeeting(1, 0, 3, 1)", 3);
        FULL.gives("lunarMeeting(32768, 0, 15, 1)", 15);
        FULL.gives("lunarMeeting(31, 0, 29, 1)", 59);
        FULL.gives("lunarMeeting(63488, -1, 28, 1)", 0);
        FULL_TOLD.refusesArgument("lunarMeeting(0, 0, 0, 1)", "lunarMeeting(63, 0, 0, 1)",
                "lunarMeeting(64512, 0, 0, 1)");

        Sentences.hold("- `lunarDay`: 0 to 99");
        Scene slow = NEW.after("addMarket(1, 0)", "setMoon(10000, 100, 0)");
        slow.gives("lunarMeeting(1, 0, 0, 1)", 0);
        slow.gives("lunarMeeting(1, 0, 99, 1000)", 99);
        slow.gives("lunarMeeting(1, 1, 0, 1000)", 99);
        // a lunar day that no month has
        SIX.gives("lunarMeeting(3, 0, 99, 1000)", -1);
        SIX.gives("lunarMeeting(3, 0, 30, 1000)", -1);
        slow.refusesArgument("lunarMeeting(1, 0, -1, 1000)", "lunarMeeting(1, 0, 100, 1000)");

        Sentences.hold("- `meetings`: 1 to 1000: on how many days on which they meet it is looked for");
        SIX.gives("lunarMeeting(3, 0, 10, 1)", 10);
        SIX.gives("lunarMeeting(3, 0, 15, 1)", -1);
        SIX.gives("lunarMeeting(3, 0, 15, 2)", 45);
        SIX.gives("lunarMeeting(3, 0, 20, 2)", -1);
        SIX.gives("lunarMeeting(3, 0, 20, 3)", 80);
        slow.gives("lunarMeeting(1, 0, 99, 99)", -1);
        slow.gives("lunarMeeting(1, 0, 99, 100)", 99);
        // with each meeting the month goes back by a hundredth of a day, from 10.98 on: it comes to
        // lunar day 0 with the last meeting that can be asked for
        Scene thousand = NEW.after("addMarket(60, 0)", "setMoon(6001, 100, 131)");
        thousand.gives("lunarMeeting(1, 0, 10, 1)", 0);
        thousand.gives("lunarMeeting(1, 0, 0, 1000)", 59940);
        thousand.gives("lunarMeeting(1, 0, 0, 999)", -1);
        thousand.takes("lunarMeeting(1, 0, 5, 1)", "lunarMeeting(1, 0, 5, 1000)");
        thousand.refusesArgument("lunarMeeting(1, 0, 0, 0)", "lunarMeeting(1, 0, 0, 1001)",
                "lunarMeeting(1, 0, 0, -1)");

        Sentences.hold("Returns the offset of the day: how many days it is behind the given one; NONE if there"
                + " is no such day among these.");
        SIX.gives("lunarMeeting(3, 10, 10, 1)", 0);
        SIX.gives("lunarMeeting(3, 10, 15, 2)", 35);
        SIX.gives("lunarMeeting(3, -24, 15, 2)", 69);
        SIX.gives("lunarMeeting(3, 11, 10, 1)", -1);
        SIX.gives("lunarMeeting(3, 1000000, 99, 1000)", -1);
        SIX.gives("lunarMeeting(3, -1000000, 99, 1000)", -1);
        // the lunar day goes on by ten from one meeting to the next, and begins with 99
        Scene far = RARE.after("setMoon(100, 1, 0)");
        far.gives("lunarMeeting(31, -1, 99, 1)", 0);
        far.gives("lunarMeeting(31, 0, 9, 1)", 568582409L);
        far.gives("lunarMeeting(31, 0, 19, 2)", 1137164819L);
        far.gives("lunarMeeting(31, 0, 49, 5)", 2842912049L);
        far.gives("lunarMeeting(31, 0, 49, 4)", -1);
        far.gives("lunarMeeting(31, -1000000, 89, 1000)", 9 * 568582410L + 999999);
        far.gives("lunarMeeting(31, 1000000, 99, 1000)", 10 * 568582410L - 1000001);
        far.gives("lunarMeeting(31, 0, 50, 1000)", -1);

        Sentences.hold("Throws `IllegalArgumentException` if day, lunarDay or meetings is out of range, or set"
                + " has no bit, or more than 5");
        Scenes.refusesSizes("lunarMeeting(%d, 0, 0, 1)");
        Scenes.refusesDays(TOLD, "lunarMeeting(3, %d, 0, 1)");
        Scenes.refusesDays(FULL_TOLD, "lunarMeeting(63488, %d, 0, 1000)");
        Scenes.refusesOutside(TOLD, "lunarMeeting(3, 0, %d, 1)", 0, 99);
        Scenes.refusesOutside(FULL_TOLD, "lunarMeeting(1, 0, %d, 1000)", 0, 99);
        Scenes.refusesOutside(TOLD, "lunarMeeting(3, 0, 0, %d)", 1, 1000);
        Scenes.refusesOutside(FULL_TOLD, "lunarMeeting(1, 0, 0, %d)", 1, 1000);

        Sentences.hold(NO_MARKET);
        Scenes.refusesBits("lunarMeeting(%d, 0, 0, 1)");

        Sentences.hold(NEVER);
        SIX.refusesState("lunarMeeting(24, 0, 0, 1)", "lunarMeeting(31, 0, 0, 1000)",
                "lunarMeeting(12, -1000000, 99, 1)", "lunarMeeting(34, 1000000, 5, 5)");
        TOLD.refusesState("lunarMeeting(24, 0, 0, 1)");
        FULL_TOLD.refusesState("lunarMeeting(10, 0, 0, 1)");
        SIX.after("shift(3, 1)").gives("lunarMeeting(24, 0, 7, 1)", 7);
    }

    private static void best() {
        Sentences.under("Promise 16: best");

        Sentences.hold("Returns the day, of those from one to another one, both included, on which the most of"
                + " some markets are held, of several the earliest one.");
        SIX.gives("best(31, 0, 60)", 10);
        SIX.gives("best(31, 9, 60)", 10);
        SIX.gives("best(31, 10, 60)", 10);
        SIX.gives("best(31, 11, 60)", 25);
        SIX.gives("best(31, 0, 10)", 10);
        SIX.gives("best(31, 0, 9)", 5);
        SIX.gives("best(31, -60, 0)", -35);
        // the first and the last day count, and of days alike the first
        SIX.gives("best(1, 3, 9)", 3);
        SIX.gives("best(1, 4, 10)", 10);
        SIX.gives("best(1, 3, 10)", 3);
        SIX.gives("best(3, 0, 9)", 0);
        SIX.gives("best(3, 3, 9)", 3);
        SIX.gives("best(3, 0, 10)", 10);
        SIX.gives("best(1, -4, 3)", -4);
        SIX.gives("best(1, -3, 3)", 3);
        // none is held on any of the days
        SIX.gives("best(1, 4, 9)", 4);
        SIX.gives("best(1, -10, -5)", -10);
        // day -1, on which all meet, is not among them: 13 are held on day 1679, 12 on day 719
        FULL.gives("best(65535, 0, 2000)", 1679);
        FULL.gives("best(65535, 0, 1679)", 1679);
        FULL.gives("best(65535, 0, 1678)", 719);
        FULL.gives("best(65535, -2000, 0)", -1);
        FULL.gives("best(65535, -1001, 999)", -1);
        FULL.gives("best(65535, -1, 1999)", -1);
        FULL.gives("best(65535, -2001, -1)", -1);
        FULL.gives("best(65534, 0, 0)", 0);

        Sentences.hold("- `set`: any set of markets");
        NEW.gives("best(0, 0, 0)", 0);
        NEW.gives("best(0, -5, 1995)", -5);
        SIX.gives("best(0, 7, 20)", 7);
        SIX.gives("best(63, 0, 60)", 10);
        SIX.gives("best(32, 0, 60)", 59);
        // those that never meet, and more than five
        SIX.gives("best(24, 0, 9)", 1);
        SIX.gives("best(24, 2, 9)", 2);
        FULL.gives("best(65535, -1, -1)", -1);
        FULL.gives("best(32768, 0, 20)", 15);
        FULL.gives("best(63, 0, 100)", 59);

        Sentences.hold("- `from`: a day");
        Scenes.refusesDays(TOLD, "best(3, %1$d, %1$d)");
        SIX.gives("best(1, -1000000, -998000)", -999996);
        SIX.gives("best(2, -1000000, -1000000)", -1000000);
        SIX.gives("best(1, 1000000, 1000000)", 1000000);
        SIX.gives("best(2, 999999, 1000000)", 1000000);
        TOLD.refusesArgument("best(3, -1000001, -1000000)", "best(3, -1000001, -999000)");

        Sentences.hold("- `to`: from to from + 2000");
        SIX.gives("best(1, 4, 4)", 4);
        SIX.gives("best(1, 0, 2000)", 3);
        SIX.gives("best(1, -2000, 0)", -1999);
        SIX.gives("best(1, 998000, 1000000)", 998000);
        SIX.gives("best(2, -1000000, -998000)", -1000000);
        TOLD.refusesArgument("best(3, 0, -1)", "best(3, 0, 2001)", "best(3, 5, 4)", "best(3, -5, -6)",
                "best(3, -2000, 1)", "best(3, 1000000, 999999)", "best(3, 997999, 1000000)",
                "best(3, -1000000, -997999)", "best(3, 0, 1000000)", "best(3, 1000000, -1000000)");
        // the last day on which all are held is found on the last of 2001 days
        FULL.gives("best(65535, -2001, -1)", -1);
        FULL_TOLD.refusesArgument("best(65535, -2002, -1)");
        // days are -1000000 to 1000000, from + 2000 or not
        TOLD.refusesArgument("best(3, 1000000, 1000001)", "best(3, 999000, 1000001)");

        Sentences.hold("Throws `IllegalArgumentException` if from or to is out of range");
        TOLD.refusesArgument("best(3, -2147483648, -2147483648)", "best(3, 2147483647, 2147483647)",
                "best(3, 2147483647, -2147483648)", "best(3, -2147483648, 2147483647)",
                "best(3, 0, 2147483647)", "best(3, 0, -2147483648)", "best(3, 2147483647, 0)",
                // 2000 days behind this one the numbers run over
                "best(3, 2147483647, -2147481649)", "best(3, 2147481648, -2147483648)",
                "best(0, 1, 0)", "best(0, 0, 2001)", "best(0, 1000001, 1000001)");
        NEW.refusesArgument("best(0, 1, 0)", "best(0, 0, 2001)", "best(0, -1000001, -1000000)");
        FULL_TOLD.refusesArgument("best(65535, 1, 0)", "best(65535, 0, 2001)");

        Sentences.hold(NO_MARKET);
        Scenes.refusesBits("best(%d, 0, 9)");
        SIX.refusesBounds("best(127, 0, 0)", "best(-1, 0, 0)", "best(-64, 0, 0)", "best(64, 0, 2000)");
        FULL_TOLD.refusesBounds("best(131071, 0, 0)", "best(-1, 0, 0)", "best(-65536, 0, 0)");
        NEW.refusesBounds("best(1, 0, 0)", "best(-1, 0, 0)");
    }
}
