/** Promise 20: mend. */
public final class P20MendTest {
    public static void main(String[] args) {
        mended();
        notTorn();
        noSuchShelf();
        allIsAsBefore();
        tornAgain();
        Due.end();
    }

    private static void mended() {
        LuggageCounter x = Counters.lived();
        Due.is("mend(2)", x.mend(2), true);
        Due.is("not torn", x.shelfOf(2, 6), 0);
        Due.is("mend(2) again", x.mend(2), false);
        LuggageCounter y = Counters.full();
        y.tear(15);
        y.tear(0);
        Due.is("mend(15)", y.mend(15), true);
        Due.is("mended", y.shelfOf(15, 6), 0);
        Due.is("the other is torn still", y.shelfOf(0, 6), 1);
    }

    private static void notTorn() {
        Unchanged.byRefused("mend(0), which isn't torn", Counters::lived, x -> x.mend(0));
        Unchanged.byRefused("mend(4), which isn't torn", Counters::lived, x -> x.mend(4));
    }

    private static void noSuchShelf() {
        for (int shelf : Bounds.outside(0, 4)) {
            Unchanged.byRefused("mend(" + shelf + ")", Counters::lived, x -> x.mend(shelf));
        }
        Unchanged.byRefused("mend(15) of five", Counters::lived, x -> x.mend(15));
        Unchanged.byRefused("mend(16) of sixteen", Counters::full, x -> x.mend(16));
    }

    private static void allIsAsBefore() {
        LuggageCounter x = new LuggageCounter();
        x.shelf(10, 2, false, 1);
        x.put(4, 0, false, false, 0, 0);
        x.tear(0);
        x.mend(0);
        Due.is("room free", x.shelfOf(0, 4), 6);
        Due.is("one more than is free", x.put(7, 0, false, false, 0, 0), -5);
        Due.is("all that is free", x.put(6, 0, false, false, 0, 0), 148);
        Due.is("give", x.give(11), 0);
        Days.goTo(x, 7, 0);
        Due.is("sell", x.sell(1, 5), 0);
    }

    private static void tornAgain() {
        LuggageCounter x = Counters.lived();
        x.mend(2);
        Due.is("tear(2)", x.tear(2), true);
        Due.is("torn", x.shelfOf(2, 6), 1);
        Due.is("give", x.give(Tickets.of(6)), -7);
    }
}
