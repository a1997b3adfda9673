/** Promise 8: give. */
public final class GiveTest {
    public static void main(String[] args) {
        feeComesIntoTheTill();
        refusalsComeInTheirOrder();
        roomIsFreeAgain();
        Due.end();
    }

    private static void feeComesIntoTheTill() {
        LuggageCounter x = new LuggageCounter();
        x.shelf(60, 2, false, 3);
        x.prices(0, 10, 2, 1, 0);
        x.put(5, 0, false, false, 0, 0);
        x.put(4, 0, false, false, 0, 0);
        Due.is("give", x.give(11), 17);
        Due.is("till", x.count(8), 17);
        Due.is("steps", x.count(10), 18);
        x.clock(1440);
        Due.is("give", x.give(148), 10 + 6 + 12);
        Due.is("till", x.count(8), 17 + 28);
        Due.is("how", x.thing(1, 7), 1);
        Due.is("steps", x.count(10), 24);
    }

    private static void refusalsComeInTheirOrder() {
        LuggageCounter x = new LuggageCounter();
        x.shelf(60, 2, false, 3);
        x.prices(0, 10, 0, 0, 0);
        x.put(5, 0, false, false, 0, 0);
        x.put(5, 0, false, false, 0, 0);
        x.put(5, 0, false, true, 0, 0);
        x.put(5, 0, false, false, 0, 0);
        x.clock(7 * 1440);
        x.sell(1, 50);
        x.sell(2, 50);
        x.give(Tickets.of(3));
        x.tear(0);
        x.hours(700, 800);
        Due.is("wrong ticket", x.give(12), -2);
        Due.is("below 0", x.give(-89), -2);
        Due.is("min", x.give(Integer.MIN_VALUE), -2);
        Due.is("no such thing", x.give(Tickets.of(4)), -3);
        Due.is("given", x.give(Tickets.of(3)), -4);
        Due.is("handed over", x.give(Tickets.of(2)), -4);
        Due.is("sold", x.give(Tickets.of(1)), -5);
        Due.is("shut", x.give(11), -6);
        x.hours(0, 1);
        Due.is("torn", x.give(11), -7);
        Due.is("still in", x.thing(0, 7), 0);
        Due.is("till", x.count(8), 10);
        x.mend(0);
        Due.is("given at last", x.give(11), 10);
        Due.is("given twice", x.give(11), -4);
    }

    private static void roomIsFreeAgain() {
        LuggageCounter x = new LuggageCounter();
        x.shelf(5, 2, false, 3);
        x.put(5, 0, false, false, 0, 0);
        Due.is("full", x.put(5, 0, false, false, 0, 0), -5);
        x.give(11);
        Due.is("free", x.shelfOf(0, 4), 5);
        Due.is("empty", x.shelfOf(0, 5), 0);
        Due.is("in", x.count(2), 0);
        Due.is("room again", x.put(5, 0, false, false, 0, 0), 148);
    }
}
