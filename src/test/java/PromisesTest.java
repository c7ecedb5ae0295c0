/** For each promise of the document: ordinary inputs, the edges that it names, wrong inputs. */
public final class PromisesTest {
    private static final int MIN = Integer.MIN_VALUE;
    private static final int MAX = Integer.MAX_VALUE;
    private static final int DAY = 1000000;

    public static void main(String[] args) {
        promise1NewObject();
        promise2AddMarket();
        promise3Shift();
        promise4SetMoon();
        promise5SetYear();
        promise6Markets();
        promise7IsHeld();
        promise8Next();
        promise9Nearest();
        promise10Times();
        promise11HeldOn();
        promise12DoMeet();
        promise13Period();
        promise14Meeting();
        promise15LunarMeeting();
        promise16Best();
        promise17Month();
        promise18LunarDay();
        promise19MonthBegin();
        promise20Year();
        promise21PlaceInYear();
        promise22IsLeap();
        promise23DayOf();
        promise24TimesInYear();
        Check.end();
    }

    /** Markets given as length, place, length, place, .. */
    private static MarketWeeks with(int... lengthsAndPlaces) {
        MarketWeeks weeks = new MarketWeeks();
        for (int i = 0; i < lengthsAndPlaces.length; i += 2) {
            weeks.addMarket(lengthsAndPlaces[i], lengthsAndPlaces[i + 1]);
        }
        return weeks;
    }

    private static MarketWeeks full() {
        MarketWeeks weeks = new MarketWeeks();
        for (int market = 0; market < 16; market++) {
            weeks.addMarket(market + 1, 0);
        }
        return weeks;
    }

    private static void promise1NewObject() {
        MarketWeeks x = new MarketWeeks();
        Check.gives("NONE", () -> MarketWeeks.NONE, -1);
        Check.gives("new: markets()", x::markets, 0);
        Check.gives("new: heldOn(0)", () -> x.heldOn(0), 0);
        Check.outOfBounds("new: isHeld(0, 0)", () -> x.isHeld(0, 0));
        // 49 months of 1447 / 49 days have 1447 days
        Check.gives("new: month(0)", () -> x.month(0), 0);
        Check.gives("new: monthBegin(0)", () -> x.monthBegin(0), 0);
        Check.gives("new: month(1446)", () -> x.month(1446), 48);
        Check.gives("new: month(1447)", () -> x.month(1447), 49);
        Check.gives("new: monthBegin(49)", () -> x.monthBegin(49), 1447);
        Check.gives("new: monthBegin(1)", () -> x.monthBegin(1), 30);
        // 33 years with 8 leap years, the first of them the year 4
        Check.gives("new: dayOf(0, 0)", () -> x.dayOf(0, 0), 0);
        Check.gives("new: dayOf(33, 0)", () -> x.dayOf(33, 0), 33 * 365 + 8);
        Check.is("new: isLeap(0)", () -> x.isLeap(0), false);
        Check.is("new: isLeap(4)", () -> x.isLeap(4), true);
        Check.is("new: isLeap(32)", () -> x.isLeap(32), true);
        MarketWeeks other = with(7, 1);
        other.setMoon(30, 1, 5);
        other.setYear(300, 1, 0, 1);
        Check.gives("another object's market", x::markets, 0);
        Check.gives("another object's moon", () -> x.monthBegin(49), 1447);
        Check.gives("another object's year", () -> x.dayOf(33, 0), 33 * 365 + 8);
    }

    private static void promise2AddMarket() {
        MarketWeeks x = new MarketWeeks();
        Check.illegalArgument("addMarket(0, 0)", () -> x.addMarket(0, 0));
        Check.illegalArgument("addMarket(0, -1)", () -> x.addMarket(0, -1));
        Check.illegalArgument("addMarket(-1, 0)", () -> x.addMarket(-1, 0));
        Check.illegalArgument("addMarket(61, 0)", () -> x.addMarket(61, 0));
        Check.illegalArgument("addMarket(MIN, 0)", () -> x.addMarket(MIN, 0));
        Check.illegalArgument("addMarket(MAX, 0)", () -> x.addMarket(MAX, 0));
        Check.illegalArgument("addMarket(7, -1)", () -> x.addMarket(7, -1));
        Check.illegalArgument("addMarket(7, 7)", () -> x.addMarket(7, 7));
        Check.illegalArgument("addMarket(7, MIN)", () -> x.addMarket(7, MIN));
        Check.illegalArgument("addMarket(7, MAX)", () -> x.addMarket(7, MAX));
        Check.illegalArgument("addMarket(MIN, MAX)", () -> x.addMarket(MIN, MAX));
        Check.gives("markets() after refusals", x::markets, 0);
        Check.gives("addMarket(1, 0)", () -> x.addMarket(1, 0), 0);
        Check.gives("addMarket(60, 59)", () -> x.addMarket(60, 59), 1);
        Check.gives("addMarket(60, 0)", () -> x.addMarket(60, 0), 2);
        Check.illegalArgument("addMarket(5, 5)", () -> x.addMarket(5, 5));
        for (int market = 3; market < 16; market++) {
            int due = market;
            Check.gives("addMarket(7, 3)", () -> x.addMarket(7, 3), due);
        }
        Check.gives("markets() of 16", x::markets, 16);
        Check.illegalState("a market too many", () -> x.addMarket(7, 3));
        Check.illegalState("a market too many again", () -> x.addMarket(1, 0));
        Check.illegalArgument("a wrong market too many", () -> x.addMarket(7, 7));
        Check.illegalArgument("a wrong market too many", () -> x.addMarket(61, 0));
        Check.gives("markets() after refusals", x::markets, 16);
        Check.gives("heldOn(59) after refusals", () -> x.heldOn(59), 1 | 2 | (59 % 7 == 3 ? 0xfff8 : 0));
        Check.gives("heldOn(60)", () -> x.heldOn(60), 1 | 4);
        Check.gives("heldOn(3)", () -> x.heldOn(3), 0xfff9);
    }

    private static void promise3Shift() {
        MarketWeeks x = with(7, 3, 60, 59, 1, 0);
        Check.gives("shift(0, 0)", () -> x.shift(0, 0), 3);
        Check.gives("shift(0, 1)", () -> x.shift(0, 1), 4);
        Check.is("held then a day later", () -> x.isHeld(0, 4), true);
        Check.is("no more held as before", () -> x.isHeld(0, 3), false);
        Check.gives("shift(0, 3)", () -> x.shift(0, 3), 0);
        Check.gives("shift(0, -1)", () -> x.shift(0, -1), 6);
        Check.gives("shift(0, 60)", () -> x.shift(0, 60), 3);
        Check.gives("shift(0, -60)", () -> x.shift(0, -60), 6);
        Check.gives("shift(1, 60)", () -> x.shift(1, 60), 59);
        Check.gives("shift(1, 1)", () -> x.shift(1, 1), 0);
        Check.gives("shift(1, -60)", () -> x.shift(1, -60), 0);
        Check.gives("shift(1, -1)", () -> x.shift(1, -1), 59);
        Check.gives("shift(2, -60)", () -> x.shift(2, -60), 0);
        Check.gives("shift(2, 60)", () -> x.shift(2, 60), 0);
        Check.illegalArgument("shift(0, 61)", () -> x.shift(0, 61));
        Check.illegalArgument("shift(0, -61)", () -> x.shift(0, -61));
        Check.illegalArgument("shift(0, MIN)", () -> x.shift(0, MIN));
        Check.illegalArgument("shift(0, MAX)", () -> x.shift(0, MAX));
        Check.outOfBounds("shift(3, 0)", () -> x.shift(3, 0));
        Check.outOfBounds("shift(-1, 0)", () -> x.shift(-1, 0));
        Check.outOfBounds("shift(16, 0)", () -> x.shift(16, 0));
        Check.outOfBounds("shift(MIN, 61)", () -> x.shift(MIN, 61));
        Check.outOfBounds("shift(3, 61)", () -> x.shift(3, 61));
        Check.gives("place after refusals", () -> x.shift(0, 0), 6);
        Check.gives("the others' places", () -> x.heldOn(59), 2 | 4);
    }

    private static void promise4SetMoon() {
        MarketWeeks x = new MarketWeeks();
        x.setMoon(30, 1, 3);
        Check.gives("setMoon(30, 1, 3): month(26)", () -> x.month(26), 0);
        Check.gives("setMoon(30, 1, 3): month(27)", () -> x.month(27), 1);
        Check.illegalArgument("setMoon(1, 1, 0)", () -> x.setMoon(1, 1, 0));
        Check.illegalArgument("setMoon(101, 1, 0)", () -> x.setMoon(101, 1, 0));
        Check.illegalArgument("setMoon(199, 100, 0)", () -> x.setMoon(199, 100, 0));
        Check.illegalArgument("setMoon(10001, 100, 0)", () -> x.setMoon(10001, 100, 0));
        Check.illegalArgument("setMoon(0, 0, 0)", () -> x.setMoon(0, 0, 0));
        Check.illegalArgument("setMoon(-2, -1, 0)", () -> x.setMoon(-2, -1, 0));
        Check.illegalArgument("setMoon(202, 101, 0)", () -> x.setMoon(202, 101, 0));
        Check.illegalArgument("setMoon(0, MIN, 0)", () -> x.setMoon(0, MIN, 0));
        Check.illegalArgument("setMoon(MAX, MAX, 0)", () -> x.setMoon(MAX, MAX, 0));
        Check.illegalArgument("setMoon(MIN, 1, 0)", () -> x.setMoon(MIN, 1, 0));
        Check.illegalArgument("setMoon(29, 1, 1001)", () -> x.setMoon(29, 1, 1001));
        Check.illegalArgument("setMoon(29, 1, -1001)", () -> x.setMoon(29, 1, -1001));
        Check.illegalArgument("setMoon(29, 1, MIN)", () -> x.setMoon(29, 1, MIN));
        Check.gives("month(26) after refusals", () -> x.month(26), 0);
        Check.gives("month(27) after refusals", () -> x.month(27), 1);
        x.setMoon(2, 1, -1000);
        Check.gives("setMoon(2, 1, -1000): month(1000)", () -> x.month(1000), 0);
        Check.gives("setMoon(2, 1, -1000): month(999)", () -> x.month(999), -1);
        Check.gives("setMoon(2, 1, -1000): monthBegin(1)", () -> x.monthBegin(1), 1002);
        x.setMoon(100, 1, 1000);
        Check.gives("setMoon(100, 1, 1000): month(-1000)", () -> x.month(-1000), 0);
        Check.gives("setMoon(100, 1, 1000): lunarDay(-901)", () -> x.lunarDay(-901), 99);
        x.setMoon(200, 100, 0);
        Check.gives("setMoon(200, 100, 0): month(5)", () -> x.month(5), 2);
        x.setMoon(10000, 100, 0);
        Check.gives("setMoon(10000, 100, 0): month(99)", () -> x.month(99), 0);
        Check.gives("setMoon(10000, 100, 0): month(100)", () -> x.month(100), 1);
    }

    private static void promise5SetYear() {
        MarketWeeks x = new MarketWeeks();
        x.setYear(360, 1, 2, 5);
        Check.is("setYear(360, 1, 2, 5): isLeap(2)", () -> x.isLeap(2), true);
        Check.is("setYear(360, 1, 2, 5): isLeap(3)", () -> x.isLeap(3), false);
        Check.illegalArgument("setYear(99, 0, 0, 1)", () -> x.setYear(99, 0, 0, 1));
        Check.illegalArgument("setYear(501, 0, 0, 1)", () -> x.setYear(501, 0, 0, 1));
        Check.illegalArgument("setYear(MIN, 0, 0, 1)", () -> x.setYear(MIN, 0, 0, 1));
        Check.illegalArgument("setYear(MAX, 0, 0, 1)", () -> x.setYear(MAX, 0, 0, 1));
        Check.illegalArgument("setYear(365, -1, 0, 1)", () -> x.setYear(365, -1, 0, 1));
        Check.illegalArgument("setYear(365, 6, 0, 5)", () -> x.setYear(365, 6, 0, 5));
        Check.illegalArgument("setYear(365, 0, -1, 1)", () -> x.setYear(365, 0, -1, 1));
        Check.illegalArgument("setYear(365, 0, 5, 5)", () -> x.setYear(365, 0, 5, 5));
        Check.illegalArgument("setYear(365, 0, 0, 0)", () -> x.setYear(365, 0, 0, 0));
        Check.illegalArgument("setYear(365, 0, -1, 0)", () -> x.setYear(365, 0, -1, 0));
        Check.illegalArgument("setYear(365, 0, 0, 401)", () -> x.setYear(365, 0, 0, 401));
        Check.illegalArgument("setYear(365, 0, 0, MIN)", () -> x.setYear(365, 0, 0, MIN));
        Check.illegalArgument("setYear(365, MAX, MAX, MAX)", () -> x.setYear(365, MAX, MAX, MAX));
        Check.gives("dayOf(3, 0) after refusals", () -> x.dayOf(3, 0), 3 * 360 + 1);
        Check.gives("dayOf(2, 0) after refusals", () -> x.dayOf(2, 0), 2 * 360);
        x.setYear(100, 0, 0, 1);
        Check.gives("setYear(100, 0, 0, 1): dayOf(7, 99)", () -> x.dayOf(7, 99), 799);
        Check.is("setYear(100, 0, 0, 1): isLeap(0)", () -> x.isLeap(0), false);
        x.setYear(500, 400, 399, 400);
        Check.gives("setYear(500, 400, 399, 400): dayOf(7, 500)", () -> x.dayOf(7, 500), 4007);
        Check.is("setYear(500, 400, 399, 400): isLeap(0)", () -> x.isLeap(0), true);
        x.setYear(500, 1, 399, 400);
        Check.is("setYear(500, 1, 399, 400): isLeap(0)", () -> x.isLeap(0), true);
        Check.is("setYear(500, 1, 399, 400): isLeap(1)", () -> x.isLeap(1), false);
        Check.is("setYear(500, 1, 399, 400): isLeap(-400)", () -> x.isLeap(-400), true);
    }

    private static void promise6Markets() {
        MarketWeeks x = new MarketWeeks();
        Check.gives("markets()", x::markets, 0);
        x.addMarket(5, 1);
        Check.gives("markets()", x::markets, 1);
        x.addMarket(5, 1);
        Check.gives("markets() of two alike", x::markets, 2);
        Check.gives("markets() asked again", x::markets, 2);
        Check.gives("markets() of 16", () -> full().markets(), 16);
    }

    private static void promise7IsHeld() {
        MarketWeeks x = with(7, 3, 1, 0);
        Check.is("isHeld(0, 3)", () -> x.isHeld(0, 3), true);
        Check.is("isHeld(0, 10)", () -> x.isHeld(0, 10), true);
        Check.is("isHeld(0, 4)", () -> x.isHeld(0, 4), false);
        Check.is("isHeld(0, 0)", () -> x.isHeld(0, 0), false);
        Check.is("isHeld(0, -3)", () -> x.isHeld(0, -3), false);
        Check.is("isHeld(0, -4)", () -> x.isHeld(0, -4), true);
        Check.is("isHeld(1, DAY)", () -> x.isHeld(1, DAY), true);
        Check.is("isHeld(1, -DAY)", () -> x.isHeld(1, -DAY), true);
        // 1000000 is 1 modulo 7, -1000000 is 6
        Check.is("isHeld(0, DAY - 5)", () -> x.isHeld(0, DAY - 5), true);
        Check.is("isHeld(0, -DAY + 4)", () -> x.isHeld(0, -DAY + 4), true);
        Check.illegalArgument("isHeld(0, DAY + 1)", () -> x.isHeld(0, DAY + 1));
        Check.illegalArgument("isHeld(0, -DAY - 1)", () -> x.isHeld(0, -DAY - 1));
        Check.illegalArgument("isHeld(0, MIN)", () -> x.isHeld(0, MIN));
        Check.illegalArgument("isHeld(0, MAX)", () -> x.isHeld(0, MAX));
        Check.outOfBounds("isHeld(2, 0)", () -> x.isHeld(2, 0));
        Check.outOfBounds("isHeld(-1, 0)", () -> x.isHeld(-1, 0));
        Check.outOfBounds("isHeld(2, DAY + 1)", () -> x.isHeld(2, DAY + 1));
        Check.outOfBounds("isHeld(16, 0) of 16", () -> full().isHeld(16, 0));
        Check.outOfBounds("isHeld(MAX, 0)", () -> x.isHeld(MAX, 0));
    }

    private static void promise8Next() {
        MarketWeeks x = with(7, 3, 60, 59);
        Check.gives("next(0, 3)", () -> x.next(0, 3), 3);
        Check.gives("next(0, 4)", () -> x.next(0, 4), 10);
        Check.gives("next(0, 9)", () -> x.next(0, 9), 10);
        Check.gives("next(0, -4)", () -> x.next(0, -4), -4);
        Check.gives("next(0, -3)", () -> x.next(0, -3), 3);
        Check.gives("next(0, -DAY)", () -> x.next(0, -DAY), -DAY + 4);
        // behind the last day that may be given
        Check.gives("next(0, DAY)", () -> x.next(0, DAY), DAY + 2);
        Check.gives("next(1, DAY)", () -> x.next(1, DAY), DAY + 19);
        Check.illegalArgument("next(0, DAY + 1)", () -> x.next(0, DAY + 1));
        Check.illegalArgument("next(0, -DAY - 1)", () -> x.next(0, -DAY - 1));
        Check.illegalArgument("next(0, MIN)", () -> x.next(0, MIN));
        Check.outOfBounds("next(2, 0)", () -> x.next(2, 0));
        Check.outOfBounds("next(-1, 0)", () -> x.next(-1, 0));
        Check.outOfBounds("next(2, MAX)", () -> x.next(2, MAX));
    }

    private static void promise9Nearest() {
        MarketWeeks x = with(7, 3, 4, 2, 1, 0);
        Check.gives("nearest(0, 3)", () -> x.nearest(0, 3), 3);
        Check.gives("nearest(0, 6)", () -> x.nearest(0, 6), 3);
        Check.gives("nearest(0, 7)", () -> x.nearest(0, 7), 10);
        Check.gives("nearest(0, 0)", () -> x.nearest(0, 0), 3);
        Check.gives("nearest(0, -1)", () -> x.nearest(0, -1), -4);
        Check.gives("nearest(1, 4), two as near", () -> x.nearest(1, 4), 2);
        Check.gives("nearest(1, 5)", () -> x.nearest(1, 5), 6);
        Check.gives("nearest(1, 3)", () -> x.nearest(1, 3), 2);
        Check.gives("nearest(1, 0), two as near", () -> x.nearest(1, 0), -2);
        Check.gives("nearest(1, -4), two as near", () -> x.nearest(1, -4), -6);
        Check.gives("nearest(2, 17)", () -> x.nearest(2, 17), 17);
        Check.gives("nearest(0, DAY)", () -> x.nearest(0, DAY), DAY + 2);
        Check.gives("nearest(0, -DAY)", () -> x.nearest(0, -DAY), -DAY - 3);
        Check.illegalArgument("nearest(0, DAY + 1)", () -> x.nearest(0, DAY + 1));
        Check.illegalArgument("nearest(0, -DAY - 1)", () -> x.nearest(0, -DAY - 1));
        Check.illegalArgument("nearest(0, MAX)", () -> x.nearest(0, MAX));
        Check.outOfBounds("nearest(3, 0)", () -> x.nearest(3, 0));
        Check.outOfBounds("nearest(-1, 0)", () -> x.nearest(-1, 0));
        Check.outOfBounds("nearest(3, MIN)", () -> x.nearest(3, MIN));
    }

    private static void promise10Times() {
        MarketWeeks x = with(7, 3, 1, 0, 60, 59);
        Check.gives("times(0, 3, 3)", () -> x.times(0, 3, 3), 1);
        Check.gives("times(0, 4, 9)", () -> x.times(0, 4, 9), 0);
        Check.gives("times(0, 3, 10)", () -> x.times(0, 3, 10), 2);
        Check.gives("times(0, 4, 10)", () -> x.times(0, 4, 10), 1);
        Check.gives("times(0, 3, 9)", () -> x.times(0, 3, 9), 1);
        Check.gives("times(0, -10, 10)", () -> x.times(0, -10, 10), 3);
        Check.gives("times(0, -4, -4)", () -> x.times(0, -4, -4), 1);
        Check.gives("times(0, -11, -4)", () -> x.times(0, -11, -4), 2);
        Check.gives("times(0, -10, -5)", () -> x.times(0, -10, -5), 0);
        Check.gives("times(1, -DAY, DAY)", () -> x.times(1, -DAY, DAY), 2 * DAY + 1);
        Check.gives("times(2, -DAY, DAY)", () -> x.times(2, -DAY, DAY), 33333);
        Check.illegalArgument("times(0, 5, 4)", () -> x.times(0, 5, 4));
        Check.illegalArgument("times(0, DAY, -DAY)", () -> x.times(0, DAY, -DAY));
        Check.illegalArgument("times(0, -DAY - 1, 0)", () -> x.times(0, -DAY - 1, 0));
        Check.illegalArgument("times(0, 0, DAY + 1)", () -> x.times(0, 0, DAY + 1));
        Check.illegalArgument("times(0, DAY + 1, DAY + 1)", () -> x.times(0, DAY + 1, DAY + 1));
        Check.illegalArgument("times(0, -DAY - 1, -DAY - 1)", () -> x.times(0, -DAY - 1, -DAY - 1));
        Check.illegalArgument("times(0, MIN, MAX)", () -> x.times(0, MIN, MAX));
        Check.outOfBounds("times(3, 0, 0)", () -> x.times(3, 0, 0));
        Check.outOfBounds("times(-1, 5, 4)", () -> x.times(-1, 5, 4));
        Check.outOfBounds("times(3, MIN, MAX)", () -> x.times(3, MIN, MAX));
    }

    private static void promise11HeldOn() {
        MarketWeeks x = with(7, 3, 5, 0, 10, 5, 4, 2, 6, 1);
        Check.gives("heldOn(10)", () -> x.heldOn(10), 1 | 2 | 8);
        Check.gives("heldOn(-10)", () -> x.heldOn(-10), 2 | 8);
        Check.gives("heldOn(0)", () -> x.heldOn(0), 2);
        Check.gives("heldOn(1)", () -> x.heldOn(1), 16);
        Check.gives("heldOn(4)", () -> x.heldOn(4), 0);
        Check.gives("heldOn(-5)", () -> x.heldOn(-5), 2 | 4 | 16);
        Check.gives("heldOn(0) of 16", () -> full().heldOn(0), 0xffff);
        Check.gives("heldOn(16) of 16", () -> full().heldOn(16), 1 | 2 | 8 | 128 | 0x8000);
        Check.gives("heldOn(DAY) of 16", () -> full().heldOn(DAY), 1 | 2 | 8 | 16 | 128 | 512 | 0x8000);
        Check.gives("heldOn(-DAY) of 16", () -> full().heldOn(-DAY), 1 | 2 | 8 | 16 | 128 | 512 | 0x8000);
        Check.illegalArgument("heldOn(DAY + 1)", () -> x.heldOn(DAY + 1));
        Check.illegalArgument("heldOn(-DAY - 1)", () -> x.heldOn(-DAY - 1));
        Check.illegalArgument("heldOn(MIN)", () -> x.heldOn(MIN));
        Check.illegalArgument("heldOn(MAX) with no market", () -> new MarketWeeks().heldOn(MAX));
    }

    private static void promise12DoMeet() {
        MarketWeeks x = with(7, 3, 5, 0, 10, 5, 4, 2, 6, 1, 4, 2);
        Check.is("doMeet(1)", () -> x.doMeet(1), true);
        Check.is("doMeet(3)", () -> x.doMeet(3), true);
        Check.is("doMeet(6)", () -> x.doMeet(6), true);
        Check.is("doMeet(24), even and odd", () -> x.doMeet(24), false);
        Check.is("doMeet(12), odd and even", () -> x.doMeet(12), false);
        Check.is("doMeet(40), alike", () -> x.doMeet(40), true);
        Check.is("doMeet(31)", () -> x.doMeet(31), false);
        Check.is("doMeet(23)", () -> x.doMeet(23), true);
        // the markets 0 and 2 both ask for a day modulo 3, and not for the same one
        MarketWeeks y = with(6, 1, 10, 1, 15, 11, 15, 1);
        Check.is("thirds doMeet(3)", () -> y.doMeet(3), true);
        Check.is("thirds doMeet(5)", () -> y.doMeet(5), false);
        Check.is("thirds doMeet(6)", () -> y.doMeet(6), true);
        Check.is("thirds doMeet(11)", () -> y.doMeet(11), true);
        Check.illegalArgument("doMeet(0)", () -> x.doMeet(0));
        Check.illegalArgument("doMeet(63), six", () -> x.doMeet(63));
        Check.illegalArgument("doMeet(-1)", () -> x.doMeet(-1));
        Check.illegalArgument("doMeet(MAX)", () -> x.doMeet(MAX));
        Check.outOfBounds("doMeet(64)", () -> x.doMeet(64));
        Check.outOfBounds("doMeet(65)", () -> x.doMeet(65));
        Check.outOfBounds("doMeet(MIN)", () -> x.doMeet(MIN));
        Check.illegalArgument("doMeet(127 << 6), seven of none", () -> x.doMeet(127 << 6));
        Check.outOfBounds("doMeet(1 << 16) of 16", () -> full().doMeet(1 << 16));
        Check.is("doMeet(0xf800) of 16", () -> full().doMeet(0xf800), true);
        Check.illegalArgument("doMeet(0) with no market", () -> new MarketWeeks().doMeet(0));
        Check.outOfBounds("doMeet(1) with no market", () -> new MarketWeeks().doMeet(1));
    }

    private static void promise13Period() {
        MarketWeeks x = with(7, 3, 5, 0, 10, 5, 4, 2, 6, 1, 1, 0);
        Check.gives("period(1)", () -> x.period(1), 7);
        Check.gives("period(3)", () -> x.period(3), 35);
        Check.gives("period(6)", () -> x.period(6), 10);
        Check.gives("period(32)", () -> x.period(32), 1);
        Check.gives("period(23)", () -> x.period(23), 210);
        Check.illegalState("period(24)", () -> x.period(24));
        Check.illegalState("period(31)", () -> x.period(31));
        Check.gives("period of the longest", () -> with(59, 1, 58, 2, 57, 3, 55, 4, 53, 5).period(31),
                568582410);
        Check.gives("period of five of 60", () -> with(60, 1, 60, 1, 60, 1, 60, 1, 60, 1).period(31), 60);
        Check.gives("period(0xf800) of 16", () -> full().period(0xf800), 12 * 13 * 7 * 5 * 4);
        Check.illegalArgument("period(0)", () -> x.period(0));
        Check.illegalArgument("period(63)", () -> x.period(63));
        Check.illegalArgument("period(-1)", () -> x.period(-1));
        Check.outOfBounds("period(64)", () -> x.period(64));
        Check.outOfBounds("period(MIN)", () -> x.period(MIN));
        // a bit of no market comes ahead of markets that never meet
        Check.outOfBounds("period(24 | 64)", () -> x.period(24 | 64));
        Check.illegalArgument("period(31 | 64)", () -> x.period(31 | 64));
    }

    private static void promise14Meeting() {
        MarketWeeks x = with(7, 3, 5, 0, 10, 5, 4, 2, 6, 1);
        Check.gives("meeting(3, 0)", () -> x.meeting(3, 0), 10);
        Check.gives("meeting(3, 10)", () -> x.meeting(3, 10), 10);
        Check.gives("meeting(3, 11)", () -> x.meeting(3, 11), 45);
        Check.gives("meeting(3, -25)", () -> x.meeting(3, -25), -25);
        Check.gives("meeting(3, -24)", () -> x.meeting(3, -24), 10);
        Check.gives("meeting(6, 6)", () -> x.meeting(6, 6), 15);
        Check.gives("meeting(1, 4)", () -> x.meeting(1, 4), 10);
        Check.gives("meeting(3, DAY)", () -> x.meeting(3, DAY), 1000000 + 35 - (1000000 - 10) % 35);
        Check.gives("meeting(3, -DAY)", () -> x.meeting(3, -DAY), -1000000 + (1000000 + 10) % 35);
        Check.illegalState("meeting(24, 0)", () -> x.meeting(24, 0));
        MarketWeeks far = with(59, 58, 58, 57, 57, 56, 55, 54, 53, 52);
        Check.gives("far meeting(31, 0)", () -> far.meeting(31, 0), 568582409);
        Check.gives("far meeting(31, -1)", () -> far.meeting(31, -1), -1);
        Check.gives("far meeting(31, -2)", () -> far.meeting(31, -2), -1);
        Check.gives("far meeting(31, DAY)", () -> far.meeting(31, DAY), 568582409);
        Check.gives("far meeting(31, -DAY)", () -> far.meeting(31, -DAY), -1);
        MarketWeeks late = with(59, 1000000 % 59, 58, 1000000 % 58, 57, 1000000 % 57, 55, 1000000 % 55,
                53, 1000000 % 53);
        late.shift(0, -1);
        late.shift(1, -1);
        late.shift(2, -1);
        late.shift(3, -1);
        late.shift(4, -1);
        Check.gives("late meeting(31, DAY - 1)", () -> late.meeting(31, DAY - 1), 999999);
        Check.gives("late meeting(31, DAY)", () -> late.meeting(31, DAY), 569582409);
        Check.illegalArgument("meeting(1, DAY + 1)", () -> x.meeting(1, DAY + 1));
        Check.illegalArgument("meeting(1, -DAY - 1)", () -> x.meeting(1, -DAY - 1));
        Check.illegalArgument("meeting(0, 0)", () -> x.meeting(0, 0));
        Check.illegalArgument("meeting(63, 0)", () -> x.meeting(63, 0));
        Check.outOfBounds("meeting(32, 0)", () -> x.meeting(32, 0));
        Check.illegalArgument("meeting(32, MAX)", () -> x.meeting(32, MAX));
        Check.illegalArgument("meeting(24, MIN)", () -> x.meeting(24, MIN));
        Check.outOfBounds("meeting(24 | 32, 0)", () -> x.meeting(24 | 32, 0));
    }

    private static void promise15LunarMeeting() {
        MarketWeeks x = with(7, 3, 5, 0, 4, 2, 6, 1, 1, 0);
        Check.gives("lunarMeeting(3, 0, 10, 100)", () -> x.lunarMeeting(3, 0, 10, 100), 10);
        Check.gives("lunarMeeting(3, 10, 10, 1)", () -> x.lunarMeeting(3, 10, 10, 1), 0);
        // the first meeting is day 10, the second 45, which is the lunar day 15
        Check.gives("lunarMeeting(3, 0, 15, 1)", () -> x.lunarMeeting(3, 0, 15, 1), -1);
        Check.gives("lunarMeeting(3, 0, 15, 2)", () -> x.lunarMeeting(3, 0, 15, 2), 45);
        Check.gives("lunarMeeting(3, -24, 15, 2)", () -> x.lunarMeeting(3, -24, 15, 2), 69);
        Check.gives("lunarMeeting(16, 0, 5, 5)", () -> x.lunarMeeting(16, 0, 5, 5), -1);
        Check.gives("lunarMeeting(16, 0, 5, 6)", () -> x.lunarMeeting(16, 0, 5, 6), 5);
        Check.gives("lunarMeeting(16, -1, 28, 1)", () -> x.lunarMeeting(16, -1, 28, 1), 0);
        Check.gives("lunarMeeting(16, 0, 99, 1000)", () -> x.lunarMeeting(16, 0, 99, 1000), -1);
        Check.gives("lunarMeeting(16, DAY, 99, 1000)", () -> x.lunarMeeting(16, DAY, 99, 1000), -1);
        MarketWeeks slow = with(1, 0);
        slow.setMoon(10000, 100, 0);
        Check.gives("slow lunarMeeting(1, 0, 99, 99)", () -> slow.lunarMeeting(1, 0, 99, 99), -1);
        Check.gives("slow lunarMeeting(1, 0, 99, 100)", () -> slow.lunarMeeting(1, 0, 99, 100), 99);
        // the period is 10 modulo the month: the lunar day goes on by ten from one meeting to the next
        MarketWeeks far = with(59, 0, 58, 0, 57, 0, 55, 0, 53, 0);
        far.setMoon(100, 1, 0);
        Check.gives("far lunarMeeting(31, 0, 50, 1000)", () -> far.lunarMeeting(31, 0, 50, 1000),
                5L * 568582410L);
        Check.gives("far lunarMeeting(31, 0, 50, 5)", () -> far.lunarMeeting(31, 0, 50, 5), -1);
        far.setMoon(97, 1, 0);
        Check.gives("far lunarMeeting(31, 1, 0, 1000)", () -> far.lunarMeeting(31, 1, 0, 1000),
                97L * 568582410L - 1);
        // a month that is no whole number of days, and days beyond the range of an int
        MarketWeeks last = with(59, 0, 58, 0, 57, 0, 55, 0, 53, 0);
        last.setMoon(9999, 100, 0);
        long due = -1;
        for (int i = 0; i < 1000 && due < 0; i++) {
            long day = i * 568582410L;
            if (day * 100 % 9999 / 100 == 98) {
                due = day;
            }
        }
        long lastDue = due;
        Check.gives("last lunarMeeting(31, 0, 98, 1000)", () -> last.lunarMeeting(31, 0, 98, 1000), lastDue);
        Check.illegalState("lunarMeeting(12, 0, 0, 1)", () -> x.lunarMeeting(12, 0, 0, 1));
        Check.illegalArgument("lunarMeeting(1, 0, 100, 1)", () -> x.lunarMeeting(1, 0, 100, 1));
        Check.illegalArgument("lunarMeeting(1, 0, -1, 1)", () -> x.lunarMeeting(1, 0, -1, 1));
        Check.illegalArgument("lunarMeeting(1, 0, 0, 0)", () -> x.lunarMeeting(1, 0, 0, 0));
        Check.illegalArgument("lunarMeeting(1, 0, 0, 1001)", () -> x.lunarMeeting(1, 0, 0, 1001));
        Check.illegalArgument("lunarMeeting(1, DAY + 1, 0, 1)", () -> x.lunarMeeting(1, DAY + 1, 0, 1));
        Check.illegalArgument("lunarMeeting(1, -DAY - 1, 0, 1)", () -> x.lunarMeeting(1, -DAY - 1, 0, 1));
        Check.illegalArgument("lunarMeeting(0, 0, 0, 1)", () -> x.lunarMeeting(0, 0, 0, 1));
        Check.illegalArgument("lunarMeeting(63, 0, 0, 1)", () -> x.lunarMeeting(63, 0, 0, 1));
        Check.outOfBounds("lunarMeeting(32, 0, 0, 1)", () -> x.lunarMeeting(32, 0, 0, 1));
        Check.outOfBounds("lunarMeeting(12 | 32, 0, 0, 1)", () -> x.lunarMeeting(12 | 32, 0, 0, 1));
        Check.illegalArgument("lunarMeeting(32, MIN, 0, 1)", () -> x.lunarMeeting(32, MIN, 0, 1));
        Check.illegalArgument("lunarMeeting(32, 0, MIN, 1)", () -> x.lunarMeeting(32, 0, MIN, 1));
        Check.illegalArgument("lunarMeeting(12, 0, 0, MAX)", () -> x.lunarMeeting(12, 0, 0, MAX));
    }

    private static void promise16Best() {
        MarketWeeks x = with(7, 3, 5, 0, 10, 5, 4, 2, 6, 1);
        Check.gives("best(31, 0, 60)", () -> x.best(31, 0, 60), 10);
        Check.gives("best(31, 11, 60)", () -> x.best(31, 11, 60), 25);
        Check.gives("best(3, 0, 9)", () -> x.best(3, 0, 9), 0);
        Check.gives("best(1, 0, 9)", () -> x.best(1, 0, 9), 3);
        Check.gives("best(1, 4, 9), not held", () -> x.best(1, 4, 9), 4);
        Check.gives("best(1, 4, 10), on the last day", () -> x.best(1, 4, 10), 10);
        Check.gives("best(0, 7, 9)", () -> x.best(0, 7, 9), 7);
        Check.gives("best(1, 5, 5)", () -> x.best(1, 5, 5), 5);
        Check.gives("best(31, -60, 0)", () -> x.best(31, -60, 0), -35);
        // 1680 is divided by all of 1 to 16 but for 9, 11 and 13
        Check.gives("best of 16", () -> full().best(0xffff, 1, 2001), 1680);
        Check.gives("best of 16 up to 1679", () -> full().best(0xffff, 1, 1679), 720);
        Check.gives("best(1, 0, 2000)", () -> x.best(1, 0, 2000), 3);
        Check.gives("best(1, DAY - 2000, DAY)", () -> x.best(1, DAY - 2000, DAY),
                x.next(0, DAY - 2000));
        Check.gives("best(1, -DAY, -DAY + 2000)", () -> x.best(1, -DAY, -DAY + 2000), -DAY + 4);
        Check.gives("best(1, DAY, DAY)", () -> x.best(1, DAY, DAY), DAY);
        Check.gives("best(0, 0, 5) with no market", () -> new MarketWeeks().best(0, 0, 5), 0);
        Check.illegalArgument("best(1, 0, 2001)", () -> x.best(1, 0, 2001));
        Check.illegalArgument("best(1, 5, 4)", () -> x.best(1, 5, 4));
        Check.illegalArgument("best(1, DAY, DAY + 1)", () -> x.best(1, DAY, DAY + 1));
        Check.illegalArgument("best(1, DAY + 1, DAY + 1)", () -> x.best(1, DAY + 1, DAY + 1));
        Check.illegalArgument("best(1, -DAY - 1, -DAY)", () -> x.best(1, -DAY - 1, -DAY));
        Check.illegalArgument("best(1, MAX, MIN)", () -> x.best(1, MAX, MIN));
        Check.illegalArgument("best(1, MIN, MAX)", () -> x.best(1, MIN, MAX));
        Check.outOfBounds("best(32, 0, 0)", () -> x.best(32, 0, 0));
        Check.outOfBounds("best(63, 0, 0)", () -> x.best(63, 0, 0));
        Check.outOfBounds("best(-1, 0, 0)", () -> x.best(-1, 0, 0));
        Check.outOfBounds("best(MIN, 0, 0)", () -> x.best(MIN, 0, 0));
        Check.outOfBounds("best(1 << 16, 0, 0) of 16", () -> full().best(1 << 16, 0, 0));
        Check.illegalArgument("best(32, 5, 4)", () -> x.best(32, 5, 4));
        Check.illegalArgument("best(-1, 0, 2001)", () -> x.best(-1, 0, 2001));
    }

    private static void promise17Month() {
        MarketWeeks x = new MarketWeeks();
        Check.gives("month(29)", () -> x.month(29), 0);
        Check.gives("month(30)", () -> x.month(30), 1);
        Check.gives("month(-1)", () -> x.month(-1), -1);
        Check.gives("month(-29)", () -> x.month(-29), -1);
        Check.gives("month(-30)", () -> x.month(-30), -2);
        Check.gives("month(DAY)", () -> x.month(DAY), 33863);
        Check.gives("month(-DAY)", () -> x.month(-DAY), -33864);
        MarketWeeks y = new MarketWeeks();
        y.setMoon(2, 1, 1000);
        Check.gives("short month(DAY)", () -> y.month(DAY), 500500);
        Check.gives("short month(-1001)", () -> y.month(-1001), -1);
        Check.illegalArgument("month(DAY + 1)", () -> x.month(DAY + 1));
        Check.illegalArgument("month(-DAY - 1)", () -> x.month(-DAY - 1));
        Check.illegalArgument("month(MIN)", () -> x.month(MIN));
        Check.illegalArgument("month(MAX)", () -> x.month(MAX));
    }

    private static void promise18LunarDay() {
        MarketWeeks x = new MarketWeeks();
        Check.gives("lunarDay(0)", () -> x.lunarDay(0), 0);
        Check.gives("lunarDay(29)", () -> x.lunarDay(29), 29);
        Check.gives("lunarDay(30)", () -> x.lunarDay(30), 0);
        Check.gives("lunarDay(59)", () -> x.lunarDay(59), 29);
        Check.gives("lunarDay(60)", () -> x.lunarDay(60), 0);
        Check.gives("lunarDay(-1)", () -> x.lunarDay(-1), 28);
        Check.gives("lunarDay(-29)", () -> x.lunarDay(-29), 0);
        Check.gives("lunarDay(-30)", () -> x.lunarDay(-30), 29);
        Check.gives("lunarDay(DAY)", () -> x.lunarDay(DAY), 49000000 % 1447 / 49);
        Check.gives("lunarDay(-DAY)", () -> x.lunarDay(-DAY), (1447 - 49000000 % 1447) / 49);
        x.setMoon(30, 1, 3);
        Check.gives("shifted lunarDay(26)", () -> x.lunarDay(26), 29);
        Check.gives("shifted lunarDay(27)", () -> x.lunarDay(27), 0);
        Check.gives("shifted lunarDay(-3)", () -> x.lunarDay(-3), 0);
        Check.gives("shifted lunarDay(-4)", () -> x.lunarDay(-4), 29);
        Check.illegalArgument("lunarDay(DAY + 1)", () -> x.lunarDay(DAY + 1));
        Check.illegalArgument("lunarDay(-DAY - 1)", () -> x.lunarDay(-DAY - 1));
        Check.illegalArgument("lunarDay(MIN)", () -> x.lunarDay(MIN));
        Check.illegalArgument("lunarDay(MAX)", () -> x.lunarDay(MAX));
    }

    private static void promise19MonthBegin() {
        MarketWeeks x = new MarketWeeks();
        Check.gives("monthBegin(0)", () -> x.monthBegin(0), 0);
        Check.gives("monthBegin(1)", () -> x.monthBegin(1), 30);
        Check.gives("monthBegin(2)", () -> x.monthBegin(2), 60);
        Check.gives("monthBegin(3)", () -> x.monthBegin(3), 89);
        Check.gives("monthBegin(-1)", () -> x.monthBegin(-1), -29);
        Check.gives("monthBegin(-49)", () -> x.monthBegin(-49), -1447);
        // outside of the days that may be given
        Check.gives("monthBegin(100000)", () -> x.monthBegin(100000), 2953062);
        Check.gives("monthBegin(-100000)", () -> x.monthBegin(-100000), -2953061);
        x.setMoon(10000, 100, -1000);
        Check.gives("long monthBegin(100000)", () -> x.monthBegin(100000), 10001000);
        Check.gives("long monthBegin(-100000)", () -> x.monthBegin(-100000), -9999000);
        x.setMoon(9999, 100, 1000);
        Check.gives("long monthBegin(1)", () -> x.monthBegin(1), -900);
        Check.gives("long monthBegin(100000)", () -> x.monthBegin(100000), 9998000);
        Check.gives("long monthBegin(99999)", () -> x.monthBegin(99999), 9997901);
        Check.illegalArgument("monthBegin(100001)", () -> x.monthBegin(100001));
        Check.illegalArgument("monthBegin(-100001)", () -> x.monthBegin(-100001));
        Check.illegalArgument("monthBegin(MIN)", () -> x.monthBegin(MIN));
        Check.illegalArgument("monthBegin(MAX)", () -> x.monthBegin(MAX));
    }

    private static void promise20Year() {
        MarketWeeks x = new MarketWeeks();
        Check.gives("year(0)", () -> x.year(0), 0);
        Check.gives("year(364)", () -> x.year(364), 0);
        Check.gives("year(365)", () -> x.year(365), 1);
        Check.gives("year(1825)", () -> x.year(1825), 4);
        Check.gives("year(1826)", () -> x.year(1826), 5);
        Check.gives("year(-1)", () -> x.year(-1), -1);
        Check.gives("year(-366)", () -> x.year(-366), -1);
        Check.gives("year(-367)", () -> x.year(-367), -2);
        x.setYear(100, 0, 0, 1);
        Check.gives("short year(DAY)", () -> x.year(DAY), 10000);
        Check.gives("short year(DAY - 1)", () -> x.year(DAY - 1), 9999);
        Check.gives("short year(-DAY)", () -> x.year(-DAY), -10000);
        x.setYear(100, 1, 1, 2);
        Check.gives("year(100)", () -> x.year(100), 0);
        Check.gives("year(101)", () -> x.year(101), 1);
        x.setYear(500, 400, 399, 400);
        Check.gives("long year(DAY)", () -> x.year(DAY), 1996);
        Check.gives("long year(-DAY)", () -> x.year(-DAY), -1997);
        Check.illegalArgument("year(DAY + 1)", () -> x.year(DAY + 1));
        Check.illegalArgument("year(-DAY - 1)", () -> x.year(-DAY - 1));
        Check.illegalArgument("year(MIN)", () -> x.year(MIN));
        Check.illegalArgument("year(MAX)", () -> x.year(MAX));
    }

    private static void promise21PlaceInYear() {
        MarketWeeks x = new MarketWeeks();
        Check.gives("placeInYear(0)", () -> x.placeInYear(0), 0);
        Check.gives("placeInYear(364)", () -> x.placeInYear(364), 364);
        Check.gives("placeInYear(365)", () -> x.placeInYear(365), 0);
        Check.gives("placeInYear(1825)", () -> x.placeInYear(1825), 365);
        Check.gives("placeInYear(1826)", () -> x.placeInYear(1826), 0);
        Check.gives("placeInYear(-1)", () -> x.placeInYear(-1), 365);
        Check.gives("placeInYear(-366)", () -> x.placeInYear(-366), 0);
        x.setYear(100, 0, 0, 1);
        Check.gives("short placeInYear(DAY)", () -> x.placeInYear(DAY), 0);
        Check.gives("short placeInYear(-DAY)", () -> x.placeInYear(-DAY), 0);
        Check.gives("short placeInYear(-DAY + 99)", () -> x.placeInYear(-DAY + 99), 99);
        x.setYear(200, 7, 3, 7);
        Check.gives("placeInYear(-DAY)", () -> x.placeInYear(-DAY), 176);
        Check.illegalArgument("placeInYear(DAY + 1)", () -> x.placeInYear(DAY + 1));
        Check.illegalArgument("placeInYear(-DAY - 1)", () -> x.placeInYear(-DAY - 1));
        Check.illegalArgument("placeInYear(MIN)", () -> x.placeInYear(MIN));
        Check.illegalArgument("placeInYear(MAX)", () -> x.placeInYear(MAX));
    }

    private static void promise22IsLeap() {
        MarketWeeks x = new MarketWeeks();
        boolean[] leap = new boolean[33];
        for (int year : new int[] {4, 8, 12, 16, 20, 24, 28, 32}) {
            leap[year] = true;
        }
        for (int year = -66; year < 66; year++) {
            int asked = year;
            Check.is("isLeap(" + year + ")", () -> x.isLeap(asked), leap[Math.floorMod(year, 33)]);
        }
        // 10000 is 1 modulo 33
        Check.is("isLeap(10000)", () -> x.isLeap(10000), false);
        Check.is("isLeap(9999)", () -> x.isLeap(9999), false);
        Check.is("isLeap(9998)", () -> x.isLeap(9998), true);
        Check.is("isLeap(-10000)", () -> x.isLeap(-10000), true);
        Check.illegalArgument("isLeap(10001)", () -> x.isLeap(10001));
        Check.illegalArgument("isLeap(-10001)", () -> x.isLeap(-10001));
        Check.illegalArgument("isLeap(MIN)", () -> x.isLeap(MIN));
        Check.illegalArgument("isLeap(MAX)", () -> x.isLeap(MAX));
    }

    private static void promise23DayOf() {
        MarketWeeks x = new MarketWeeks();
        Check.gives("dayOf(0, 0)", () -> x.dayOf(0, 0), 0);
        Check.gives("dayOf(0, 364)", () -> x.dayOf(0, 364), 364);
        Check.illegalArgument("dayOf(0, 365)", () -> x.dayOf(0, 365));
        Check.gives("dayOf(4, 365)", () -> x.dayOf(4, 365), 1825);
        Check.illegalArgument("dayOf(4, 366)", () -> x.dayOf(4, 366));
        Check.gives("dayOf(5, 0)", () -> x.dayOf(5, 0), 1826);
        Check.gives("dayOf(-1, 0)", () -> x.dayOf(-1, 0), -366);
        Check.gives("dayOf(-1, 365)", () -> x.dayOf(-1, 365), -1);
        // outside of the days that may be given
        Check.gives("dayOf(10000, 364)", () -> x.dayOf(10000, 364), 3650000 + 2424 + 364);
        Check.gives("dayOf(-10000, 365)", () -> x.dayOf(-10000, 365), -3650000 - 2425 + 365);
        x.setYear(500, 400, 399, 400);
        Check.gives("long dayOf(10000, 500)", () -> x.dayOf(10000, 500), 5010500);
        Check.gives("long dayOf(-10000, 0)", () -> x.dayOf(-10000, 0), -5010000);
        Check.illegalArgument("dayOf(0, 501)", () -> x.dayOf(0, 501));
        Check.illegalArgument("dayOf(0, -1)", () -> x.dayOf(0, -1));
        Check.illegalArgument("dayOf(0, MIN)", () -> x.dayOf(0, MIN));
        Check.illegalArgument("dayOf(0, MAX)", () -> x.dayOf(0, MAX));
        Check.illegalArgument("dayOf(10001, 0)", () -> x.dayOf(10001, 0));
        Check.illegalArgument("dayOf(-10001, 0)", () -> x.dayOf(-10001, 0));
        Check.illegalArgument("dayOf(MAX, 0)", () -> x.dayOf(MAX, 0));
        Check.illegalArgument("dayOf(MIN, MIN)", () -> x.dayOf(MIN, MIN));
    }

    private static void promise24TimesInYear() {
        MarketWeeks x = with(60, 59, 1, 0, 7, 1, 7, 0, 7, 6);
        Check.gives("timesInYear(0, 0)", () -> x.timesInYear(0, 0), 6);
        Check.gives("timesInYear(1, 0)", () -> x.timesInYear(1, 0), 365);
        Check.gives("timesInYear(1, 4)", () -> x.timesInYear(1, 4), 366);
        Check.gives("timesInYear(1, -1)", () -> x.timesInYear(1, -1), 366);
        // year 0 has 52 weeks and the day 364, which is 0 modulo 7
        Check.gives("timesInYear(2, 0)", () -> x.timesInYear(2, 0), 52);
        Check.gives("timesInYear(3, 0)", () -> x.timesInYear(3, 0), 53);
        // the last day of the year -1 is 6 modulo 7, its first one 5
        Check.gives("timesInYear(4, -1)", () -> x.timesInYear(4, -1), 53);
        Check.gives("timesInYear(3, -1)", () -> x.timesInYear(3, -1), 52);
        Check.gives("timesInYear(1, 10000)", () -> x.timesInYear(1, 10000), 365);
        Check.gives("timesInYear(1, 9998)", () -> x.timesInYear(1, 9998), 366);
        Check.gives("timesInYear(1, -10000)", () -> x.timesInYear(1, -10000), 366);
        x.setYear(500, 400, 399, 400);
        Check.gives("long timesInYear(1, 10000)", () -> x.timesInYear(1, 10000), 501);
        Check.gives("long timesInYear(0, -10000)", () -> x.timesInYear(0, -10000), 8);
        Check.illegalArgument("timesInYear(0, 10001)", () -> x.timesInYear(0, 10001));
        Check.illegalArgument("timesInYear(0, -10001)", () -> x.timesInYear(0, -10001));
        Check.illegalArgument("timesInYear(0, MIN)", () -> x.timesInYear(0, MIN));
        Check.illegalArgument("timesInYear(0, MAX)", () -> x.timesInYear(0, MAX));
        Check.outOfBounds("timesInYear(5, 0)", () -> x.timesInYear(5, 0));
        Check.outOfBounds("timesInYear(-1, 0)", () -> x.timesInYear(-1, 0));
        Check.outOfBounds("timesInYear(5, 10001)", () -> x.timesInYear(5, 10001));
        Check.outOfBounds("timesInYear(MIN, MAX)", () -> x.timesInYear(MIN, MAX));
    }
}
