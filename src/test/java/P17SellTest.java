/** Promise 17: sell. Terms: SALE, 7 DAYS or more behind the DAY of DUE; coins are kept for 30 DAYS. */
public final class P17SellTest {
    public static void main(String[] args) {
        coinsAreKept();
        sealedIsHandedOver();
        noSuchThing();
        coinsAtTheirBounds();
        coinsOutside();
        notIn();
        sevenDaysBehindDue();
        latestDue();
        torn();
        refusalsComeInTheirOrder();
        whileShut();
        thirtyDaysAndThenTheyFall();
        fallOverALongStep();
        noCoinsFallToo();
        Due.end();
    }

    /** Things 0 (sealed), 1 and 2, all due on day 0. */
    private static LuggageCounter counter() {
        LuggageCounter x = new LuggageCounter();
        x.shelf(60, 2, false, 6);
        x.prices(0, 10, 5, 1, 0);
        x.put(2, 0, false, true, 0, 0);
        x.put(2, 0, false, false, 0, 1439);
        x.put(2, 0, false, false, 0, 0);
        return x;
    }

    private static LuggageCounter onDay7() {
        LuggageCounter x = counter();
        x.clock(7 * 1440);
        return x;
    }

    private static void coinsAreKept() {
        LuggageCounter x = onDay7();
        Due.is("sell", x.sell(1, 300), 0);
        int[] due = {2, 0, 0, 0, 0, 1439, 0, 2, -1, 1, -1, 300, 7};
        for (int what = 0; what <= 12; what++) {
            Due.is("thing(1, " + what + ")", x.thing(1, what), due[what]);
        }
        Due.is("kept", x.count(9), 300);
        Due.is("till", x.count(8), 0);
        Due.is("steps", x.count(10), 4 * 12);
        Due.is("in", x.count(2), 2);
        Due.is("room", x.shelfOf(0, 4), 56);
        Due.is("on it", x.shelfOf(0, 5), 2);
        x.sell(2, 50);
        Due.is("kept of both", x.count(9), 350);
    }

    private static void sealedIsHandedOver() {
        LuggageCounter x = onDay7();
        Due.is("sell", x.sell(0, 300), 1);
        int[] due = {2, 0, 0, 1, 0, 0, 0, 5, -1, 1, -1, 0, 7};
        for (int what = 0; what <= 12; what++) {
            Due.is("thing(0, " + what + ")", x.thing(0, what), due[what]);
        }
        Due.is("kept", x.count(9), 0);
        Due.is("till", x.count(8), 0);
        Due.is("steps", x.count(10), 4 * 12);
        Due.is("in", x.count(2), 2);
        Due.is("room", x.shelfOf(0, 4), 56);
        Days.goTo(x, 38, 0);
        Due.is("it never falls", x.thing(0, 7), 5);
        Due.is("till", x.count(8), 0);
    }

    private static void noSuchThing() {
        for (int thing : Bounds.outside(0, 9)) {
            Unchanged.by("sell(" + thing + ", 5)", Counters::lived, x -> x.sell(thing, 5), -2);
        }
        Unchanged.by("sell(120, 5)", Counters::full, x -> x.sell(120, 5), -2);
        Unchanged.by("sell(119, 5)", Counters::full, x -> x.sell(119, 5), -4);
        Due.is("sell(2, 5)", onDay7().sell(2, 5), 0);
        Due.is("sell(3, 5)", onDay7().sell(3, 5), -2);
    }

    private static void coinsAtTheirBounds() {
        LuggageCounter x = onDay7();
        Due.is("for nothing", x.sell(1, 0), 0);
        Due.is("how", x.thing(1, 7), 2);
        Due.is("coins", x.thing(1, 11), 0);
        Due.is("for 100000", x.sell(2, 100000), 0);
        Due.is("coins", x.thing(2, 11), 100000);
        Due.is("kept", x.count(9), 100000);
    }

    private static void coinsOutside() {
        for (int coins : Bounds.outside(0, 100000)) {
            Unchanged.by("sell(1, " + coins + ")", P17SellTest::onDay7, x -> x.sell(1, coins), -2);
        }
    }

    private static void notIn() {
        Unchanged.by("given", Counters::lived, x -> x.sell(0, 5), -3);
        Unchanged.by("fallen", Counters::lived, x -> x.sell(1, 5), -3);
        Unchanged.by("sold", Counters::lived, x -> x.sell(2, 5), -3);
        Unchanged.by("handed over", Counters::lived, x -> x.sell(3, 5), -3);
        Unchanged.by("paid out", Counters::lived, x -> x.sell(4, 5), -3);
        Unchanged.by("given to a claim", Counters::lived, x -> x.sell(8, 5), -3);
    }

    private static LuggageCounter lastMinuteOfDay6() {
        LuggageCounter x = counter();
        x.clock(7 * 1440 - 1);
        return x;
    }

    private static void sevenDaysBehindDue() {
        Unchanged.by("too early, sealed", P17SellTest::lastMinuteOfDay6, x -> x.sell(0, 5), -4);
        Unchanged.by("too early", P17SellTest::lastMinuteOfDay6, x -> x.sell(1, 5), -4);
        LuggageCounter x = lastMinuteOfDay6();
        x.clock(1);
        Due.is("7 days behind, sealed", x.sell(0, 5), 1);
        Due.is("7 days behind the last minute of day 0", x.sell(1, 5), 0);
        Days.goTo(x, 8, 0);
        Due.is("8 days behind", x.sell(2, 5), 0);
        Due.is("day of sale", x.thing(2, 12), 8);
        LuggageCounter y = counter();
        y.put(1, 0, false, false, 0, 1440);
        Days.goTo(y, 7, 1439);
        Due.is("6 days behind day 1", y.sell(3, 1), -4);
        Days.goTo(y, 8, 0);
        Due.is("7 days behind day 1", y.sell(3, 1), 0);
    }

    private static void latestDue() {
        LuggageCounter x = counter();
        x.put(1, 0, false, false, 0, 63 * 1440 - 1);
        x.put(1, 0, false, false, 0, 63 * 1440);
        x.put(1, 0, false, false, 0, 100000);
        Days.goTo(x, 69, 640);
        Due.is("due on day 62", x.sell(3, 1), 0);
        Due.is("due on day 63", x.sell(4, 1), -4);
        Due.is("due at the last minute", x.sell(5, 1), -4);
    }

    private static LuggageCounter tornOnDay7() {
        LuggageCounter x = onDay7();
        x.tear(0);
        return x;
    }

    private static void torn() {
        Unchanged.by("torn, sealed", P17SellTest::tornOnDay7, x -> x.sell(0, 5), -5);
        Unchanged.by("torn", P17SellTest::tornOnDay7, x -> x.sell(1, 5), -5);
        LuggageCounter x = tornOnDay7();
        x.mend(0);
        Due.is("mended", x.sell(1, 5), 0);
        LuggageCounter y = counter();
        y.shelf(60, 2, false, 7);
        y.tear(0);
        y.put(1, 0, false, false, 0, 0);
        Days.goTo(y, 7, 0);
        Due.is("a torn shelf stops alone", y.sell(3, 5), 0);
    }

    private static void refusalsComeInTheirOrder() {
        LuggageCounter x = counter();
        x.give(Tickets.of(2));
        x.tear(0);
        Due.is("coins, given, early, torn", x.sell(2, 100001), -2);
        Due.is("given, early", x.sell(2, 5), -3);
        Due.is("coins, early, torn", x.sell(1, -1), -2);
        Due.is("early, torn", x.sell(1, 5), -4);
        Days.goTo(x, 7, 0);
        Due.is("torn", x.sell(1, 5), -5);
    }

    private static void whileShut() {
        LuggageCounter x = onDay7();
        x.hours(1, 2);
        Due.is("sold while shut", x.sell(1, 5), 0);
        Due.is("handed over while shut", x.sell(0, 5), 1);
    }

    private static void thirtyDaysAndThenTheyFall() {
        LuggageCounter x = counter();
        Days.goTo(x, 7, 1439);
        x.sell(1, 300);
        Days.goTo(x, 8, 0);
        x.sell(2, 40);
        Days.goTo(x, 37, 1439);
        Due.is("the last minute of day 37", x.thing(1, 7), 2);
        Due.is("coins", x.thing(1, 11), 300);
        Due.is("kept", x.count(9), 340);
        Due.is("till", x.count(8), 0);
        Days.goTo(x, 38, 0);
        Due.is("day 38", x.thing(1, 7), 4);
        Due.is("coins", x.thing(1, 11), 0);
        Due.is("day of sale", x.thing(1, 12), 7);
        Due.is("the other is kept", x.thing(2, 7), 2);
        Due.is("kept", x.count(9), 40);
        Due.is("till", x.count(8), 300);
        Due.is("sealed and in still", x.thing(0, 7), 0);
        Days.goTo(x, 38, 1439);
        Due.is("the last minute of day 38", x.thing(2, 7), 2);
        Days.goTo(x, 39, 0);
        Due.is("day 39", x.thing(2, 7), 4);
        Due.is("kept", x.count(9), 0);
        Due.is("till", x.count(8), 340);
        Days.goTo(x, 69, 640);
        Due.is("they fall once", x.count(8), 340);
    }

    private static void fallOverALongStep() {
        LuggageCounter x = onDay7();
        x.sell(1, 300);
        x.sell(2, 40);
        x.pay(Tickets.of(2));
        x.hours(1, 2);
        Days.goTo(x, 69, 640);
        Due.is("fallen while shut", x.thing(1, 7), 4);
        Due.is("paid out stays paid out", x.thing(2, 7), 3);
        Due.is("till", x.count(8), 340);
        Due.is("kept", x.count(9), 0);
    }

    private static void noCoinsFallToo() {
        LuggageCounter x = onDay7();
        x.sell(1, 0);
        Days.goTo(x, 37, 1439);
        Due.is("sold", x.thing(1, 7), 2);
        Days.goTo(x, 38, 0);
        Due.is("fallen", x.thing(1, 7), 4);
        Due.is("till", x.count(8), 0);
    }
}
