/** Objects as most sentences are looked at. */
final class Scenes {
    /**
     * The markets 0 and 1 meet on day 10 and then every 35 days, 1 and 2 on day 5 and then every 10;
     * 3 is held on even days alone, 2, 4 and 5 on odd ones.
     */
    static final Scene SIX = Scene.NEW.after("addMarket(7, 3)", "addMarket(5, 0)", "addMarket(10, 5)",
            "addMarket(4, 2)", "addMarket(6, 1)", "addMarket(60, 59)");

    /** Nothing is any more as it was at first: a market shifted, another moon, another year. */
    static final Scene TOLD = SIX.after("shift(0, 1)", "shift(5, -3)", "setMoon(59, 2, 3)",
            "setYear(360, 1, 2, 5)");

    /** As many markets as can be: the market m has m + 1 days, and all are held on day -1. */
    static final Scene FULL = full();

    /** As many, and nothing as it was at first: the markets 1 and 3 never meet any more. */
    static final Scene FULL_TOLD = FULL.after("shift(3, 1)", "setMoon(59, 2, 3)", "setYear(360, 1, 2, 5)");

    private Scenes() {
    }

    private static Scene full() {
        String[] calls = new String[16];
        for (int market = 0; market < calls.length; market++) {
            calls[market] = "addMarket(" + (market + 1) + ", " + market + ")";
        }
        return Scene.NEW.after(calls);
    }

    /** Three calls for a market that is not there yet, and for numbers that no market can have. */
    static void refusesMarkets(String form) {
        Scene.NEW.refusesBounds(String.format(form, 0), String.format(form, -1));
        TOLD.refusesBounds(String.format(form, 6), String.format(form, -1), String.format(form, 15),
                String.format(form, Integer.MIN_VALUE), String.format(form, Integer.MAX_VALUE));
        FULL_TOLD.refusesBounds(String.format(form, 16), String.format(form, -1));
        TOLD.takes(String.format(form, 0), String.format(form, 5));
        FULL.takes(String.format(form, 0), String.format(form, 15));
    }

    /** Calls for the first numbers that are refused on either side, and for the farthest ones. */
    static void refusesOutside(Scene scene, String form, int least, int most) {
        scene.refusesArgument(String.format(form, least - 1), String.format(form, most + 1),
                String.format(form, Integer.MIN_VALUE), String.format(form, Integer.MAX_VALUE));
        scene.takes(String.format(form, least), String.format(form, most));
    }

    static void refusesDays(Scene scene, String form) {
        refusesOutside(scene, form, -1000000, 1000000);
    }

    static void refusesYears(Scene scene, String form) {
        refusesOutside(scene, form, -10000, 10000);
    }

    /** Sets that no method of markets that meet takes: none, and more than five. */
    static void refusesSizes(String form) {
        Scene.NEW.refusesArgument(String.format(form, 0), String.format(form, 63),
                String.format(form, -1), String.format(form, Integer.MAX_VALUE));
        TOLD.refusesArgument(String.format(form, 0), String.format(form, 63), String.format(form, -1));
        FULL_TOLD.refusesArgument(String.format(form, 0), String.format(form, 0xfc00),
                String.format(form, 0xffff), String.format(form, 63));
        FULL.takes(String.format(form, 1), String.format(form, 0x8000), String.format(form, 31),
                String.format(form, 0xf800));
    }

    /** Sets with a bit for the first market that is not there, and with the bits beyond all. */
    static void refusesBits(String form) {
        Scene.NEW.refusesBounds(String.format(form, 1), String.format(form, 31));
        TOLD.refusesBounds(String.format(form, 64), String.format(form, 65), String.format(form, 3 | 64),
                String.format(form, 0x8000), String.format(form, Integer.MIN_VALUE));
        FULL_TOLD.refusesBounds(String.format(form, 0x10000), String.format(form, 0x10001),
                String.format(form, 0x40000000), String.format(form, Integer.MIN_VALUE),
                String.format(form, Integer.MIN_VALUE | 1));
        TOLD.takes(String.format(form, 1), String.format(form, 32));
        FULL.takes(String.format(form, 0x8000), String.format(form, 0x8001));
    }
}
