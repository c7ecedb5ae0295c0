/** Promises 1 to 6: a new object, and what it is told. */
final class RuleSentences {
    private static final Scene NEW = Scene.NEW;
    private static final Scene SIX = Scenes.SIX;
    private static final Scene TOLD = Scenes.TOLD;
    private static final Scene FULL = Scenes.FULL;
    private static final Scene FULL_TOLD = Scenes.FULL_TOLD;

    private RuleSentences() {
    }

    static void look() {
        newObject();
        addMarket();
        shift();
        setMoon();
        setYear();
        markets();
    }

    private static void newObject() {
        Sentences.under("Promise 1: A new object");

        Sentences.hold("No markets; moon and year as above.");
        NEW.gives("markets()", 0);
        for (int day : new int[] {-1000000, -1, 0, 1, 1000000}) {
            NEW.gives("heldOn(" + day + ")", 0);
        }
        NEW.refusesBounds("shift(0, 0)", "isHeld(0, 0)", "next(0, 0)", "nearest(0, 0)", "times(0, 0, 0)",
                "timesInYear(0, 0)", "doMeet(1)", "period(1)", "meeting(1, 0)",
                "lunarMeeting(1, 0, 0, 1)", "best(1, 0, 0)");
        NEW.gives("best(0, 4, 9)", 4);
        NEW.gives("addMarket(7, 3)", 0);
        // 49 months have 1447 days, and begin again with the month 49
        NEW.gives("month(0)", 0);
        NEW.gives("month(-1)", -1);
        NEW.gives("month(1446)", 48);
        NEW.gives("month(1447)", 49);
        NEW.gives("monthBegin(48)", 1418);
        NEW.gives("monthBegin(49)", 1447);
        NEW.gives("lunarDay(0)", 0);
        NEW.gives("lunarDay(1447)", 0);
        // 33 years have 8 leap years, and begin again with the year 33
        NEW.gives("year(0)", 0);
        NEW.gives("year(-1)", -1);
        NEW.gives("dayOf(33, 0)", 12053);
        NEW.gives("dayOf(32, 365)", 12052);
        NEW.gives("dayOf(0, 364)", 364);
        NEW.refusesArgument("dayOf(0, 365)");
        NEW.tells("isLeap(3)", false);
        NEW.tells("isLeap(4)", true);
        NEW.tells("isLeap(32)", true);
        NEW.tells("isLeap(33)", false);
        // objects know nothing of one another
        MarketWeeks ahead = TOLD.made();
        MarketWeeks full = FULL_TOLD.made();
        NEW.isAsBefore("a new object behind others", new MarketWeeks());
        TOLD.isAsBefore("with others made behind it", ahead);
        FULL_TOLD.isAsBefore("with another asked behind it", full);
    }

    private static void addMarket() {
        Sentences.under("Promise 2: addMarket");

        Sentences.hold("Adds a market.");
        Scene one = NEW.after("addMarket(7, 3)");
        one.gives("markets()", 1);
        one.gives("heldOn(3)", 1);
        one.gives("heldOn(2)", 0);
        one.gives("heldOn(4)", 0);
        one.gives("heldOn(10)", 1);
        Scene two = one.after("addMarket(5, 0)");
        two.gives("markets()", 2);
        two.gives("heldOn(3)", 1);
        two.gives("heldOn(5)", 2);
        two.gives("heldOn(10)", 3);
        FULL.gives("heldOn(-1)", 0xffff);
        FULL.gives("heldOn(15)", 0x8000 | 1 | 2 | 8 | 128);

        Sentences.hold("- `length`: 1 to 60");
        NEW.gives("addMarket(1, 0)", 0);
        NEW.gives("addMarket(60, 0)", 0);
        NEW.refusesArgument("addMarket(0, 0)", "addMarket(61, 0)", "addMarket(-1, 0)", "addMarket(-7, -7)");
        TOLD.refusesArgument("addMarket(0, 0)", "addMarket(61, 0)", "addMarket(-2147483648, 0)",
                "addMarket(2147483647, 0)");
        Scene shortest = NEW.after("addMarket(1, 0)");
        shortest.gives("times(0, -1000000, 1000000)", 2000001);
        Scene longest = NEW.after("addMarket(60, 0)");
        longest.gives("next(0, 0)", 0);
        longest.gives("next(0, 1)", 60);

        Sentences.hold("- `place`: 0 to length - 1");
        NEW.gives("addMarket(7, 0)", 0);
        NEW.gives("addMarket(7, 6)", 0);
        NEW.gives("addMarket(60, 59)", 0);
        NEW.refusesArgument("addMarket(7, -1)", "addMarket(7, 7)", "addMarket(60, 60)", "addMarket(60, -1)",
                "addMarket(1, 1)", "addMarket(1, -1)");
        TOLD.refusesArgument("addMarket(2, 2)", "addMarket(2, -1)", "addMarket(7, -2147483648)",
                "addMarket(7, 2147483647)");
        TOLD.gives("addMarket(2, 1)", 6);
        NEW.after("addMarket(7, 0)").gives("next(0, 0)", 0);
        NEW.after("addMarket(7, 6)").gives("next(0, 0)", 6);
        NEW.after("addMarket(60, 59)").gives("next(0, 0)", 59);
        NEW.after("addMarket(60, 59)").gives("next(0, -1)", -1);

        Sentences.hold("Returns its number.");
        NEW.gives("addMarket(7, 3)", 0);
        one.gives("addMarket(7, 3)", 1);
        SIX.gives("addMarket(7, 3)", 6);
        Scene fifteen = fifteen();
        fifteen.gives("addMarket(7, 3)", 15);

        Sentences.hold("Throws `IllegalArgumentException` if an argument is out of range");
        NEW.refusesArgument("addMarket(0, 0)", "addMarket(5, 5)", "addMarket(61, 61)",
                "addMarket(-2147483648, 2147483647)", "addMarket(2147483647, 2147483647)");
        FULL_TOLD.refusesArgument("addMarket(0, 0)", "addMarket(61, 0)", "addMarket(7, 7)", "addMarket(7, -1)");

        Sentences.hold("Throws `IllegalStateException` if there are 16");
        fifteen.gives("addMarket(60, 59)", 15);
        FULL.refusesState("addMarket(1, 0)", "addMarket(7, 3)", "addMarket(60, 59)");
        FULL_TOLD.refusesState("addMarket(1, 0)", "addMarket(7, 3)", "addMarket(60, 59)");
        fifteen.after("addMarket(60, 59)").refusesState("addMarket(60, 59)");
        fifteen.after("addMarket(60, 59)").gives("next(15, 60)", 119);
    }

    private static Scene fifteen() {
        Scene scene = NEW;
        for (int market = 0; market < 15; market++) {
            scene = scene.after("addMarket(4, 1)");
        }
        return scene;
    }

    private static void shift() {
        Sentences.under("Promise 3: shift");

        Sentences.hold("Shifts a market: from now on it is held as many days later.");
        Scene later = SIX.after("shift(0, 1)");
        later.gives("heldOn(3)", 0);
        later.gives("heldOn(4)", 1);
        later.gives("next(0, 5)", 11);
        later.gives("next(0, -3)", -3);
        Scene earlier = SIX.after("shift(0, -1)");
        earlier.gives("next(0, 0)", 2);
        earlier.gives("next(0, 3)", 9);
        // the others are held as before, and the market meets them on other days
        later.gives("heldOn(10)", 2 | 8);
        later.gives("meeting(3, 0)", 25);
        later.gives("period(3)", 35);
        SIX.after("shift(3, 1)").tells("doMeet(24)", true);
        SIX.tells("doMeet(24)", false);
        FULL.after("shift(15, -15)").gives("heldOn(-1)", 0x7fff);
        FULL.after("shift(15, -15)").gives("next(15, -1)", 0);
        later.after("shift(0, 1)").gives("next(0, 0)", 5);

        Sentences.hold("- `days`: -60 to 60");
        SIX.gives("shift(0, 60)", 0);
        SIX.gives("shift(0, -60)", 6);
        SIX.gives("shift(0, 0)", 3);
        SIX.after("shift(0, 0)").gives("next(0, 0)", 3);
        SIX.after("shift(0, 60)").gives("next(0, 0)", 0);
        SIX.after("shift(0, -60)").gives("next(0, 0)", 6);
        SIX.refusesArgument("shift(0, 61)", "shift(0, -61)", "shift(5, 61)", "shift(5, -61)");

        Sentences.hold("Returns its place then.");
        SIX.gives("shift(0, 3)", 6);
        SIX.gives("shift(0, 4)", 0);
        SIX.gives("shift(0, 5)", 1);
        SIX.gives("shift(0, -3)", 0);
        SIX.gives("shift(0, -4)", 6);
        SIX.gives("shift(5, 1)", 0);
        SIX.gives("shift(5, 60)", 59);
        SIX.gives("shift(5, -60)", 59);
        SIX.gives("shift(5, -59)", 0);
        SIX.gives("shift(1, -60)", 0);
        SIX.gives("shift(1, -1)", 4);
        NEW.after("addMarket(1, 0)").gives("shift(0, 1)", 0);
        NEW.after("addMarket(1, 0)").gives("shift(0, -1)", 0);
        NEW.after("addMarket(60, 0)").gives("shift(0, -60)", 0);
        FULL.gives("shift(15, 1)", 0);
        FULL.gives("shift(15, -16)", 15);

        Sentences.hold("Throws `IndexOutOfBoundsException` if there is no such market");
        Scenes.refusesMarkets("shift(%d, 1)");
        Scenes.refusesMarkets("shift(%d, -60)");

        Sentences.hold("Throws `IllegalArgumentException` if days is out of range");
        Scenes.refusesOutside(TOLD, "shift(0, %d)", -60, 60);
        Scenes.refusesOutside(FULL_TOLD, "shift(15, %d)", -60, 60);
    }

    private static void setMoon() {
        Sentences.under("Promise 4: setMoon");

        Sentences.hold("Sets the rule of the moon.");
        Scene told = NEW.after("setMoon(59, 2, 3)");
        told.gives("monthBegin(0)", -3);
        told.gives("monthBegin(1)", 27);
        told.gives("monthBegin(2)", 56);
        told.gives("month(26)", 0);
        told.gives("month(27)", 1);
        told.gives("lunarDay(26)", 29);
        told.gives("lunarDay(55)", 28);
        Scene again = told.after("setMoon(1447, 49, 0)");
        again.gives("monthBegin(0)", 0);
        again.gives("monthBegin(49)", 1447);
        // the year and the markets are as before
        SIX.after("setMoon(59, 2, 3)").gives("dayOf(33, 0)", 12053);
        SIX.after("setMoon(59, 2, 3)").gives("heldOn(10)", 1 | 2 | 8);

        Sentences.hold("- `num`: 2 * den to 100 * den");
        NEW.takes("setMoon(2, 1, 0)", "setMoon(100, 1, 0)", "setMoon(98, 49, 0)", "setMoon(4900, 49, 0)",
                "setMoon(200, 100, 0)", "setMoon(10000, 100, 0)");
        TOLD.refusesArgument("setMoon(1, 1, 0)", "setMoon(101, 1, 0)", "setMoon(97, 49, 0)",
                "setMoon(4901, 49, 0)", "setMoon(199, 100, 0)", "setMoon(10001, 100, 0)",
                "setMoon(0, 1, 0)", "setMoon(-2, 1, 0)", "setMoon(-2147483648, 1, 0)",
                "setMoon(2147483647, 100, 0)");
        NEW.after("setMoon(2, 1, 0)").gives("month(3)", 1);
        NEW.after("setMoon(2, 1, 0)").gives("month(4)", 2);
        NEW.after("setMoon(98, 49, 0)").gives("month(3)", 1);
        NEW.after("setMoon(98, 49, 0)").gives("month(4)", 2);
        NEW.after("setMoon(10000, 100, 0)").gives("month(99)", 0);
        NEW.after("setMoon(10000, 100, 0)").gives("month(100)", 1);

        Sentences.hold("- `den`: 1 to 100");
        NEW.takes("setMoon(29, 1, 0)", "setMoon(2953, 100, 0)");
        TOLD.refusesArgument("setMoon(0, 0, 0)", "setMoon(29, 0, 0)", "setMoon(2983, 101, 0)",
                "setMoon(202, 101, 0)", "setMoon(10100, 101, 0)", "setMoon(-2, -1, 0)",
                "setMoon(-50, -1, 0)", "setMoon(-100, -1, 0)", "setMoon(29, -1, 0)",
                // twice and a hundred times these run over, to 0 and near to it
                "setMoon(0, -2147483648, 0)", "setMoon(29, 2147483647, 0)", "setMoon(0, 1073741824, 0)",
                "setMoon(2147483647, 2147483647, 0)", "setMoon(-2, 2147483647, 0)");
        NEW.after("setMoon(29, 1, 0)").gives("monthBegin(100)", 2900);
        NEW.after("setMoon(2953, 100, 0)").gives("monthBegin(100)", 2953);

        Sentences.hold("- `shift`: -1000 to 1000");
        Scenes.refusesOutside(TOLD, "setMoon(29, 1, %d)", -1000, 1000);
        NEW.after("setMoon(29, 1, 1000)").gives("monthBegin(0)", -1000);
        NEW.after("setMoon(29, 1, 1000)").gives("month(-1001)", -1);
        NEW.after("setMoon(29, 1, -1000)").gives("monthBegin(0)", 1000);
        NEW.after("setMoon(29, 1, -1000)").gives("month(999)", -1);

        Sentences.hold("Throws `IllegalArgumentException` if an argument is out of range");
        // each with one argument out of range, and two that would be another rule
        TOLD.refusesArgument("setMoon(39, 20, 7)", "setMoon(2001, 20, 7)", "setMoon(3000, 101, 7)",
                "setMoon(600, 20, 1001)", "setMoon(600, 20, -1001)");
        NEW.refusesArgument("setMoon(39, 20, 7)", "setMoon(3000, 101, 7)", "setMoon(600, 20, 1001)",
                "setMoon(0, 0, 0)");
    }

    private static void setYear() {
        Sentences.under("Promise 5: setYear");

        Sentences.hold("Sets the rule of the year.");
        Scene told = NEW.after("setYear(360, 1, 2, 5)");
        told.tells("isLeap(1)", false);
        told.tells("isLeap(2)", true);
        told.tells("isLeap(3)", false);
        told.gives("dayOf(2, 360)", 1080);
        told.gives("dayOf(3, 0)", 1081);
        told.gives("year(1080)", 2);
        told.gives("year(1081)", 3);
        told.after("setYear(365, 8, 0, 33)").gives("dayOf(33, 0)", 12053);
        // the moon and the markets are as before
        SIX.after("setYear(360, 1, 2, 5)").gives("monthBegin(49)", 1447);
        SIX.after("setYear(360, 1, 2, 5)").gives("heldOn(10)", 1 | 2 | 8);

        Sentences.hold("- `common`: 100 to 500");
        Scenes.refusesOutside(TOLD, "setYear(%d, 1, 0, 3)", 100, 500);
        NEW.after("setYear(100, 0, 0, 1)").gives("dayOf(7, 99)", 799);
        NEW.after("setYear(100, 0, 0, 1)").refusesArgument("dayOf(7, 100)");
        NEW.after("setYear(500, 0, 0, 1)").gives("dayOf(7, 499)", 3999);
        NEW.after("setYear(500, 0, 0, 1)").refusesArgument("dayOf(7, 500)");

        Sentences.hold("- `a`: 0 to c");
        Scenes.refusesOutside(TOLD, "setYear(300, %d, 0, 33)", 0, 33);
        Scenes.refusesOutside(TOLD, "setYear(300, %d, 0, 1)", 0, 1);
        Scenes.refusesOutside(TOLD, "setYear(300, %d, 0, 400)", 0, 400);
        // with 0 no year is a leap year, with c each one
        NEW.after("setYear(300, 0, 32, 33)").tells("isLeap(0)", false);
        NEW.after("setYear(300, 0, 32, 33)").tells("isLeap(33)", false);
        NEW.after("setYear(300, 0, 32, 33)").gives("dayOf(33, 0)", 9900);
        NEW.after("setYear(300, 33, 0, 33)").tells("isLeap(0)", true);
        NEW.after("setYear(300, 33, 0, 33)").tells("isLeap(1)", true);
        NEW.after("setYear(300, 33, 0, 33)").gives("dayOf(33, 0)", 9933);

        Sentences.hold("- `b`: 0 to c - 1");
        Scenes.refusesOutside(TOLD, "setYear(300, 8, %d, 33)", 0, 32);
        Scenes.refusesOutside(TOLD, "setYear(300, 1, %d, 1)", 0, 0);
        Scenes.refusesOutside(TOLD, "setYear(300, 1, %d, 400)", 0, 399);
        NEW.after("setYear(300, 1, 0, 4)").tells("isLeap(0)", false);
        NEW.after("setYear(300, 1, 0, 4)").tells("isLeap(3)", true);
        NEW.after("setYear(300, 1, 3, 4)").tells("isLeap(0)", true);
        NEW.after("setYear(300, 1, 3, 4)").tells("isLeap(1)", false);
        NEW.after("setYear(300, 1, 3, 4)").gives("dayOf(0, 0)", 0);
        NEW.after("setYear(300, 1, 3, 4)").gives("dayOf(1, 0)", 301);

        Sentences.hold("- `c`: 1 to 400");
        Scenes.refusesOutside(TOLD, "setYear(300, 0, 0, %d)", 1, 400);
        TOLD.refusesArgument("setYear(300, 0, -1, 0)", "setYear(300, -1, -2, -1)",
                "setYear(300, 401, 400, 401)", "setYear(300, 2147483647, 2147483646, 2147483647)",
                "setYear(300, -2147483648, 2147483647, -2147483648)");
        NEW.after("setYear(300, 1, 0, 1)").gives("dayOf(400, 0)", 120400);
        NEW.after("setYear(300, 1, 0, 400)").gives("dayOf(399, 300)", 120000);
        NEW.after("setYear(300, 1, 0, 400)").tells("isLeap(398)", false);
        NEW.after("setYear(300, 1, 0, 400)").tells("isLeap(400)", false);
        NEW.after("setYear(300, 1, 0, 400)").gives("dayOf(400, 0)", 120001);

        Sentences.hold("Throws `IllegalArgumentException` if an argument is out of range");
        // each with one argument out of range, and three that would be another rule
        TOLD.refusesArgument("setYear(99, 3, 1, 7)", "setYear(501, 3, 1, 7)", "setYear(400, -1, 1, 7)",
                "setYear(400, 8, 1, 7)", "setYear(400, 3, -1, 7)", "setYear(400, 3, 7, 7)",
                "setYear(400, 0, 0, 0)", "setYear(400, 3, 1, 401)");
        NEW.refusesArgument("setYear(99, 3, 1, 7)", "setYear(400, 8, 1, 7)", "setYear(400, 3, 7, 7)",
                "setYear(400, 3, 1, 401)", "setYear(400, 0, 0, 0)");
    }

    private static void markets() {
        Sentences.under("Promise 6: markets");

        Sentences.hold("Returns the number of markets.");
        NEW.gives("markets()", 0);
        NEW.after("addMarket(60, 59)").gives("markets()", 1);
        // two that are alike are two
        NEW.after("addMarket(5, 1)", "addMarket(5, 1)").gives("markets()", 2);
        SIX.gives("markets()", 6);
        TOLD.gives("markets()", 6);
        fifteen().gives("markets()", 15);
        FULL.gives("markets()", 16);
    }
}
