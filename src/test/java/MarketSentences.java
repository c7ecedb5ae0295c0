/** Promises 7 to 11: a market. */
final class MarketSentences {
    private static final String NO_MARKET = "Throws `IndexOutOfBoundsException` if there is no such market";
    private static final String DAY_OUT = "Throws `IllegalArgumentException` if day is out of range";

    private static final Scene NEW = Scene.NEW;
    private static final Scene SIX = Scenes.SIX;
    private static final Scene TOLD = Scenes.TOLD;
    private static final Scene FULL = Scenes.FULL;
    private static final Scene FULL_TOLD = Scenes.FULL_TOLD;

    private MarketSentences() {
    }

    static void look() {
        isHeld();
        next();
        nearest();
        times();
        heldOn();
    }

    private static void isHeld() {
        Sentences.under("Promise 7: isHeld");

        Sentences.hold("Tells whether a market is held on a day.");
        // the cycle begins again with the days 0, 7 and -7
        for (int day = -15; day <= 15; day++) {
            boolean isDue = day == -11 || day == -4 || day == 3 || day == 10;
            SIX.tells("isHeld(0, " + day + ")", isDue);
        }
        Scene edges = NEW.after("addMarket(60, 0)", "addMarket(60, 59)", "addMarket(1, 0)", "addMarket(2, 1)");
        edges.tells("isHeld(0, 0)", true);
        edges.tells("isHeld(0, 59)", false);
        edges.tells("isHeld(0, 60)", true);
        edges.tells("isHeld(0, -60)", true);
        edges.tells("isHeld(0, -1)", false);
        edges.tells("isHeld(1, -1)", true);
        edges.tells("isHeld(1, 58)", false);
        edges.tells("isHeld(1, 59)", true);
        edges.tells("isHeld(1, 60)", false);
        edges.tells("isHeld(2, -1)", true);
        edges.tells("isHeld(2, 0)", true);
        edges.tells("isHeld(3, 0)", false);
        edges.tells("isHeld(3, -1)", true);
        edges.tells("isHeld(3, -2)", false);
        FULL.tells("isHeld(15, 15)", true);
        FULL.tells("isHeld(15, 16)", false);
        FULL.tells("isHeld(15, -1)", true);
        // 1000000 is 1 modulo 7, and -1000000 is 6
        Scene far = NEW.after("addMarket(7, 1)", "addMarket(7, 6)");
        far.tells("isHeld(0, 1000000)", true);
        far.tells("isHeld(1, 1000000)", false);
        far.tells("isHeld(0, -1000000)", false);
        far.tells("isHeld(1, -1000000)", true);

        Sentences.hold(NO_MARKET);
        Scenes.refusesMarkets("isHeld(%d, 0)");
        Scenes.refusesMarkets("isHeld(%d, -1000000)");

        Sentences.hold(DAY_OUT);
        Scenes.refusesDays(TOLD, "isHeld(0, %d)");
        Scenes.refusesDays(FULL_TOLD, "isHeld(15, %d)");
    }

    private static void next() {
        Sentences.under("Promise 8: next");

        Sentences.hold("Returns the first day from a day on, this one included, on which a market is held.");
        SIX.gives("next(0, 2)", 3);
        SIX.gives("next(0, 3)", 3);
        SIX.gives("next(0, 4)", 10);
        SIX.gives("next(0, 10)", 10);
        SIX.gives("next(0, 11)", 17);
        SIX.gives("next(0, 0)", 3);
        SIX.gives("next(0, -1)", 3);
        SIX.gives("next(0, -3)", 3);
        SIX.gives("next(0, -4)", -4);
        SIX.gives("next(0, -5)", -4);
        SIX.gives("next(1, 0)", 0);
        SIX.gives("next(1, 1)", 5);
        SIX.gives("next(1, -4)", 0);
        SIX.gives("next(1, -5)", -5);
        SIX.gives("next(5, 59)", 59);
        SIX.gives("next(5, 60)", 119);
        SIX.gives("next(5, -1)", -1);
        SIX.gives("next(5, -60)", -1);
        SIX.gives("next(5, -61)", -61);
        FULL.gives("next(0, -7)", -7);
        FULL.gives("next(0, 8)", 8);
        FULL.gives("next(15, 0)", 15);
        FULL.gives("next(15, 16)", 31);
        SIX.gives("next(0, -1000000)", -999996);
        SIX.gives("next(1, -1000000)", -1000000);
        SIX.gives("next(1, 1000000)", 1000000);
        // behind the last day that can be given
        SIX.gives("next(0, 1000000)", 1000002);
        NEW.after("addMarket(60, 39)").gives("next(0, 1000000)", 1000059);
        NEW.after("addMarket(60, 40)").gives("next(0, 1000000)", 1000000);
        NEW.after("addMarket(60, 19)").gives("next(0, -1000000)", -999941);

        Sentences.hold(NO_MARKET);
        Scenes.refusesMarkets("next(%d, 0)");
        Scenes.refusesMarkets("next(%d, 1000000)");

        Sentences.hold(DAY_OUT);
        Scenes.refusesDays(TOLD, "next(0, %d)");
        Scenes.refusesDays(FULL_TOLD, "next(15, %d)");
    }

    private static void nearest() {
        Sentences.under("Promise 9: nearest");

        Sentences.hold("Returns the day nearest to a day on which a market is held; of two the earlier one.");
        // of seven days three are nearer to the one ahead, three to the one behind
        SIX.gives("nearest(0, 3)", 3);
        SIX.gives("nearest(0, 4)", 3);
        SIX.gives("nearest(0, 6)", 3);
        SIX.gives("nearest(0, 7)", 10);
        SIX.gives("nearest(0, 9)", 10);
        SIX.gives("nearest(0, 10)", 10);
        SIX.gives("nearest(0, 2)", 3);
        SIX.gives("nearest(0, 0)", 3);
        SIX.gives("nearest(0, -1)", -4);
        SIX.gives("nearest(0, -4)", -4);
        SIX.gives("nearest(0, -7)", -4);
        SIX.gives("nearest(0, -8)", -11);
        // of four days the one in the middle is as near to both
        SIX.gives("nearest(3, 1)", 2);
        SIX.gives("nearest(3, 2)", 2);
        SIX.gives("nearest(3, 3)", 2);
        SIX.gives("nearest(3, 4)", 2);
        SIX.gives("nearest(3, 5)", 6);
        SIX.gives("nearest(3, 0)", -2);
        SIX.gives("nearest(3, -1)", -2);
        SIX.gives("nearest(3, -4)", -6);
        SIX.gives("nearest(3, -3)", -2);
        SIX.gives("nearest(5, 89)", 59);
        SIX.gives("nearest(5, 90)", 119);
        SIX.gives("nearest(5, 29)", -1);
        SIX.gives("nearest(5, 30)", 59);
        SIX.gives("nearest(5, -31)", -61);
        SIX.gives("nearest(5, -30)", -1);
        FULL.gives("nearest(0, -5)", -5);
        FULL.gives("nearest(0, 6)", 6);
        FULL.gives("nearest(1, 0)", -1);
        FULL.gives("nearest(1, 1)", 1);
        FULL.gives("nearest(1, 2)", 1);
        FULL.gives("nearest(15, 7)", -1);
        FULL.gives("nearest(15, 8)", 15);
        // on either side of the days that can be given
        NEW.after("addMarket(60, 10)").gives("nearest(0, 1000000)", 999970);
        NEW.after("addMarket(60, 9)").gives("nearest(0, 1000000)", 1000029);
        NEW.after("addMarket(60, 50)").gives("nearest(0, -1000000)", -1000030);
        NEW.after("addMarket(60, 49)").gives("nearest(0, -1000000)", -999971);
        NEW.after("addMarket(60, 40)").gives("nearest(0, 1000000)", 1000000);
        NEW.after("addMarket(60, 20)").gives("nearest(0, -1000000)", -1000000);

        Sentences.hold(NO_MARKET);
        Scenes.refusesMarkets("nearest(%d, 0)");
        Scenes.refusesMarkets("nearest(%d, -1000000)");

        Sentences.hold(DAY_OUT);
        Scenes.refusesDays(TOLD, "nearest(0, %d)");
        Scenes.refusesDays(FULL_TOLD, "nearest(15, %d)");
    }

    private static void times() {
        Sentences.under("Promise 10: times");

        Sentences.hold("Returns how often a market is held from one day to another one, both included.");
        SIX.gives("times(0, 3, 10)", 2);
        SIX.gives("times(0, 4, 10)", 1);
        SIX.gives("times(0, 3, 9)", 1);
        SIX.gives("times(0, 4, 9)", 0);
        SIX.gives("times(0, 2, 11)", 2);
        SIX.gives("times(0, -4, 3)", 2);
        SIX.gives("times(0, -3, 2)", 0);
        SIX.gives("times(0, -11, -4)", 2);
        SIX.gives("times(0, -10, -5)", 0);
        SIX.gives("times(0, -10, 10)", 3);
        SIX.gives("times(1, 0, 5)", 2);
        SIX.gives("times(1, -5, 0)", 2);
        SIX.gives("times(1, -4, -1)", 0);
        SIX.gives("times(5, -1, 59)", 2);
        SIX.gives("times(5, 0, 58)", 0);
        FULL.gives("times(0, -3, 3)", 7);
        FULL.gives("times(15, -1, 15)", 2);
        FULL.gives("times(15, 0, 14)", 0);
        FULL.gives("times(0, -1000000, 1000000)", 2000001);
        NEW.after("addMarket(2, 0)").gives("times(0, -1000000, 1000000)", 1000001);
        NEW.after("addMarket(2, 1)").gives("times(0, -1000000, 1000000)", 1000000);
        // from 20 modulo 60 to 40 modulo 60
        NEW.after("addMarket(60, 20)").gives("times(0, -1000000, 1000000)", 33334);
        NEW.after("addMarket(60, 19)").gives("times(0, -1000000, 1000000)", 33333);
        NEW.after("addMarket(60, 40)").gives("times(0, -1000000, 1000000)", 33334);
        NEW.after("addMarket(60, 41)").gives("times(0, -1000000, 1000000)", 33333);
        NEW.after("addMarket(60, 40)").gives("times(0, -1000000, 999999)", 33333);
        NEW.after("addMarket(60, 20)").gives("times(0, -999999, 1000000)", 33333);

        Sentences.hold("- `to`: not below from");
        SIX.gives("times(0, 3, 3)", 1);
        SIX.gives("times(0, 4, 4)", 0);
        SIX.gives("times(0, -4, -4)", 1);
        SIX.gives("times(1, 1000000, 1000000)", 1);
        SIX.gives("times(1, -1000000, -1000000)", 1);
        SIX.gives("times(1, 0, 1)", 1);
        TOLD.refusesArgument("times(0, 3, 2)", "times(0, 0, -1)", "times(0, -4, -5)", "times(0, 1000000, 999999)",
                "times(0, -999999, -1000000)", "times(0, 1000000, -1000000)");
        FULL_TOLD.refusesArgument("times(15, 1, 0)");

        Sentences.hold(NO_MARKET);
        Scenes.refusesMarkets("times(%d, 0, 0)");
        Scenes.refusesMarkets("times(%d, -1000000, 1000000)");

        Sentences.hold("Throws `IllegalArgumentException` if from or to is out of range");
        Scenes.refusesDays(TOLD, "times(0, %1$d, %1$d)");
        TOLD.refusesArgument("times(0, -1000001, 0)", "times(0, -1000001, 1000000)", "times(0, 0, 1000001)",
                "times(0, -1000000, 1000001)", "times(0, -2147483648, 0)", "times(0, 0, 2147483647)",
                "times(0, -2147483648, 2147483647)", "times(0, 2147483647, -2147483648)",
                "times(0, 1000001, 1000000)", "times(0, -1000000, -1000001)");
        FULL_TOLD.refusesArgument("times(15, -1000001, 0)", "times(15, 0, 1000001)");
        TOLD.takes("times(0, -1000000, 0)", "times(0, 0, 1000000)", "times(0, -1000000, 1000000)");
    }

    private static void heldOn() {
        Sentences.under("Promise 11: heldOn");

        Sentences.hold("Returns the markets that are held on a day.");
        NEW.gives("heldOn(0)", 0);
        NEW.gives("heldOn(-1000000)", 0);
        NEW.gives("heldOn(1000000)", 0);
        SIX.gives("heldOn(0)", 2);
        SIX.gives("heldOn(3)", 1);
        SIX.gives("heldOn(4)", 0);
        SIX.gives("heldOn(5)", 2 | 4);
        SIX.gives("heldOn(10)", 1 | 2 | 8);
        SIX.gives("heldOn(59)", 1 | 32);
        SIX.gives("heldOn(60)", 2);
        SIX.gives("heldOn(-1)", 32);
        SIX.gives("heldOn(-4)", 1);
        SIX.gives("heldOn(-5)", 2 | 4 | 16);
        SIX.gives("heldOn(-10)", 2 | 8);
        FULL.gives("heldOn(-1)", 0xffff);
        FULL.gives("heldOn(0)", 1);
        FULL.gives("heldOn(15)", 1 | 2 | 8 | 128 | 0x8000);
        FULL.gives("heldOn(14)", 1 | 4 | 16 | 0x4000);
        NEW.after("addMarket(1, 0)").gives("heldOn(-1000000)", 1);
        NEW.after("addMarket(1, 0)").gives("heldOn(1000000)", 1);
        // 1000001 is divided by 1 alone of 1 to 16, -999999 by 1, 3, 7, 9, 11 and 13
        FULL.gives("heldOn(1000000)", 1);
        FULL.gives("heldOn(-1000000)", 1 | 4 | 64 | 256 | 1024 | 4096);

        Sentences.hold(DAY_OUT);
        Scenes.refusesDays(NEW, "heldOn(%d)");
        Scenes.refusesDays(TOLD, "heldOn(%d)");
        Scenes.refusesDays(FULL_TOLD, "heldOn(%d)");
    }
}
