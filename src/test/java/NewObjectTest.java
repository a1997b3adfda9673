/** Promise 1: a new object; promise 24: count. */
public final class NewObjectTest {
    public static void main(String[] args) {
        LuggageCounter x = new LuggageCounter();
        for (int what = 0; what <= 6; what++) {
            Due.is("new count(" + what + ")", x.count(what), 0);
        }
        Due.is("new count(7): open all day", x.count(7), 1);
        for (int what = 8; what <= 10; what++) {
            Due.is("new count(" + what + ")", x.count(what), 0);
        }
        Due.is("new misfit()", x.misfit(), 0);
        Due.is("new least()", x.least(), 0);
        Due.is("new shelfOf(0, 0)", x.shelfOf(0, 0), -1);
        Due.is("new thing(0, 0)", x.thing(0, 0), -1);
        Due.is("new claimOf(0, 1)", x.claimOf(0, 1), -1);
        Due.is("new fee(11)", x.fee(11), -3);
        counts();
        othersHaveNoCount();
        Due.end();
    }

    private static void counts() {
        LuggageCounter x = new LuggageCounter();
        x.shelf(60, 2, false, 5);
        x.shelf(60, 2, false, 9);
        x.prices(0, 7, 0, 0, 0);
        x.put(1, 0, false, false, 0, 0);
        x.put(1, 0, false, false, 0, 480);
        x.put(1, 0, false, false, 0, 0);
        x.claim();
        x.clock(1441);
        x.give(Tickets.of(0));
        x.hours(0, 1);
        Due.is("count(0)", x.count(0), 2);
        Due.is("count(1)", x.count(1), 3);
        Due.is("count(2)", x.count(2), 2);
        Due.is("count(3)", x.count(3), 1);
        Due.is("count(4)", x.count(4), 1);
        Due.is("count(5)", x.count(5), 1441);
        Due.is("count(6)", x.count(6), 1);
        Due.is("count(7)", x.count(7), 0);
        Due.is("count(8)", x.count(8), 7);
        Due.is("count(9)", x.count(9), 0);
        Due.is("count(10)", x.count(10), 10 + 18 + 10 + 10);
    }

    private static void othersHaveNoCount() {
        LuggageCounter x = new LuggageCounter();
        int[] others = {-1, 11, 12, Integer.MAX_VALUE, Integer.MIN_VALUE};
        for (int what : others) {
            Due.is("count(" + what + ")", x.count(what), -1);
        }
    }
}
