/** Promise 19: tear. Terms: nothing fits a torn SHELF, and its things can't be given, moved, sold. */
public final class P19TearTest {
    public static void main(String[] args) {
        torn();
        tornAlready();
        noSuchShelf();
        itsThingsStay();
        stopsAlone();
        Due.end();
    }

    private static void torn() {
        LuggageCounter x = Counters.lived();
        Due.is("tear(0)", x.tear(0), true);
        Due.is("torn", x.shelfOf(0, 6), 1);
        Due.is("the next isn't", x.shelfOf(1, 6), 0);
        Due.is("tear(4), the last", x.tear(4), true);
        LuggageCounter y = Counters.full();
        Due.is("tear(15)", y.tear(15), true);
        Due.is("torn", y.shelfOf(15, 6), 1);
    }

    private static void tornAlready() {
        Unchanged.byRefused("tear(2), which is torn", Counters::lived, x -> x.tear(2));
    }

    private static void noSuchShelf() {
        for (int shelf : Bounds.outside(0, 4)) {
            Unchanged.byRefused("tear(" + shelf + ")", Counters::lived, x -> x.tear(shelf));
        }
        Unchanged.byRefused("tear(15) of five", Counters::lived, x -> x.tear(15));
        Unchanged.byRefused("tear(16) of sixteen", Counters::full, x -> x.tear(16));
    }

    private static void itsThingsStay() {
        LuggageCounter x = Counters.lived();
        int[] shelf = {20, 2, 0, 30, 16, 1, 1};
        for (int what = 0; what < 7; what++) {
            Due.is("shelfOf(2, " + what + ")", x.shelfOf(2, what), shelf[what]);
        }
        Due.is("in", x.thing(6, 7), 0);
        Due.is("there", x.thing(6, 8), 2);
        Due.is("its misfit counts", x.thing(6, 10), 0);
        Due.is("in", x.count(2), 4);
    }

    private static void stopsAlone() {
        LuggageCounter x = new LuggageCounter();
        x.shelf(60, 2, false, 1);
        x.shelf(60, 2, false, 50);
        x.put(1, 0, false, false, 0, 0);
        x.put(1, 0, false, false, 0, 3000);
        x.tear(0);
        Due.is("give from the torn one", x.give(Tickets.of(0)), -7);
        Due.is("give from the other", x.give(Tickets.of(1)), 0);
        x.put(1, 0, false, false, 0, 0);
        Due.is("put goes to the other", x.thing(2, 8), 1);
        Days.goTo(x, 7, 0);
        Due.is("sell from the torn one", x.sell(0, 5), -5);
        Due.is("sell from the other", x.sell(2, 5), 0);
    }
}
