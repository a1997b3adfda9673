/** Promise 21: shelfOf. */
public final class P21ShelfOfTest {
    public static void main(String[] args) {
        allThatIsTold();
        emptyAndFull();
        noSuchShelf();
        noSuchWhat();
        Due.end();
    }

    private static void tells(LuggageCounter x, int shelf, int... due) {
        for (int what = 0; what < due.length; what++) {
            int w = what;
            Due.is("shelfOf(" + shelf + ", " + w + ")", x.shelfOf(shelf, w), due[w]);
        }
    }

    private static void allThatIsTold() {
        LuggageCounter x = Counters.lived();
        tells(x, 0, 20, 2, 0, 5, 17, 1, 0);
        tells(x, 1, 20, 1, 1, 9, 15, 1, 0);
        tells(x, 2, 20, 2, 0, 30, 16, 1, 1);
        tells(x, 3, 6, 0, 0, 60, 4, 1, 0);
        tells(x, 4, 10, 2, 0, 52, 10, 0, 0);
    }

    private static void emptyAndFull() {
        LuggageCounter x = new LuggageCounter();
        x.shelf(60, 1, true, 99);
        tells(x, 0, 60, 1, 1, 99, 60, 0, 0);
        for (int i = 1; i <= 60; i++) {
            x.put(1, 0, true, false, 0, 0);
            Due.is("room free", x.shelfOf(0, 4), 60 - i);
            Due.is("on it", x.shelfOf(0, 5), i);
        }
        tells(x, 0, 60, 1, 1, 99, 0, 60, 0);
        for (int i = 0; i < 60; i++) {
            x.give(Tickets.of(i));
        }
        tells(x, 0, 60, 1, 1, 99, 60, 0, 0);
        LuggageCounter y = new LuggageCounter();
        y.shelf(20, 0, false, 1);
        y.put(20, 0, false, false, 0, 0);
        tells(y, 0, 20, 0, 0, 1, 0, 1, 0);
    }

    private static void noSuchShelf() {
        for (int shelf : Bounds.outside(0, 4)) {
            for (int what = 0; what <= 6; what++) {
                Due.is("shelfOf(" + shelf + ", " + what + ")", Counters.lived().shelfOf(shelf, what), -1);
            }
            Unchanged.by("shelfOf(" + shelf + ", 6)", Counters::lived, x -> x.shelfOf(shelf, 6), -1);
        }
        Due.is("shelfOf(15, 3) of sixteen", Counters.full().shelfOf(15, 3), 91);
        Due.is("shelfOf(16, 3) of sixteen", Counters.full().shelfOf(16, 3), -1);
    }

    private static void noSuchWhat() {
        for (int what : Bounds.outside(0, 6)) {
            for (int shelf = 0; shelf < 5; shelf++) {
                Due.is("shelfOf(" + shelf + ", " + what + ")", Counters.lived().shelfOf(shelf, what), -1);
            }
        }
        Unchanged.by("shelfOf(2, 7)", Counters::lived, x -> x.shelfOf(2, 7), -1);
        Unchanged.by("shelfOf(2, 6)", Counters::lived, x -> x.shelfOf(2, 6), 1);
    }
}
