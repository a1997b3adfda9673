/** Promise 1: minute 0, no SHELVES, THINGS, prices, CLAIMS; and what every call answers while there is nothing. */
public final class P01NewObjectTest {
    public static void main(String[] args) {
        nothingIsThere();
        openAllDayAtFirst();
        noPrices();
        callsThatFindNothing();
        readersThatFindNothing();
        Due.end();
    }

    private static void nothingIsThere() {
        LuggageCounter x = new LuggageCounter();
        for (int what = 0; what <= 6; what++) {
            Due.is("new count(" + what + ")", x.count(what), 0);
        }
        for (int what = 8; what <= 10; what++) {
            Due.is("new count(" + what + ")", x.count(what), 0);
        }
        Due.is("new misfit()", x.misfit(), 0);
        Due.is("new least()", x.least(), 0);
    }

    private static void openAllDayAtFirst() {
        LuggageCounter x = new LuggageCounter();
        Due.is("open at 0", x.count(7), 1);
        Days.goTo(x, 0, 1439);
        Due.is("open at 1439", x.count(7), 1);
        Days.goTo(x, 1, 0);
        Due.is("open at 1440", x.count(7), 1);
        Days.goTo(x, 69, 640);
        Due.is("open at 100000", x.count(7), 1);
    }

    private static void noPrices() {
        LuggageCounter x = new LuggageCounter();
        x.shelf(60, 2, true, 1);
        x.put(20, 0, true, false, 0, 0);
        Due.is("fee on day 0", x.fee(11), 0);
        x.clock(100000);
        Due.is("fee on day 69", x.fee(11), 0);
    }

    private static void callsThatFindNothing() {
        Unchanged.by("put", LuggageCounter::new, x -> x.put(1, 0, false, false, 0, 0), -5);
        Unchanged.by("fee(11)", LuggageCounter::new, x -> x.fee(11), -3);
        Unchanged.by("give(11)", LuggageCounter::new, x -> x.give(11), -3);
        Unchanged.by("mark(0, 0, 0)", LuggageCounter::new, x -> x.mark(0, 0, 0), -1);
        Unchanged.by("means(0)", LuggageCounter::new, x -> x.means(0), -1);
        Unchanged.by("ask(0)", LuggageCounter::new, x -> x.ask(0), -1);
        Unchanged.by("settle(0)", LuggageCounter::new, x -> x.settle(0), -2);
        Unchanged.by("tidy(1)", LuggageCounter::new, x -> x.tidy(1), -1);
        Unchanged.by("sell(0, 0)", LuggageCounter::new, x -> x.sell(0, 0), -2);
        Unchanged.by("pay(11)", LuggageCounter::new, x -> x.pay(11), -3);
        Unchanged.byRefused("tear(0)", LuggageCounter::new, x -> x.tear(0));
        Unchanged.byRefused("mend(0)", LuggageCounter::new, x -> x.mend(0));
    }

    private static void readersThatFindNothing() {
        LuggageCounter x = new LuggageCounter();
        for (int what = -1; what <= 14; what++) {
            Due.is("new shelfOf(0, " + what + ")", x.shelfOf(0, what), -1);
            Due.is("new thing(0, " + what + ")", x.thing(0, what), -1);
            Due.is("new claimOf(0, " + what + ")", x.claimOf(0, what), -1);
        }
    }
}
