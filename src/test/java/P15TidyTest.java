/** Promise 15: tidy. */
public final class P15TidyTest {
    public static void main(String[] args) {
        outside();
        open();
        noMoves();
        upToN();
        fiftyAtMost();
        greatestFallFirst();
        leastThingThenShelf();
        onlyIfItFalls();
        notItsOwnShelf();
        movesKeepToWhatFits();
        roomIsFreedByMoves();
        tornShelvesAreLeftAlone();
        onlyWhatIsIn();
        nothingToTidy();
        fullCounter();
        Due.end();
    }

    private static void outside() {
        for (int n : Bounds.outside(0, 50)) {
            Unchanged.by("tidy(" + n + ") while shut", Counters::livedShut, x -> x.tidy(n), -1);
            Unchanged.by("tidy(" + n + ") while open", Counters::lived, x -> x.tidy(n), -1);
        }
        Due.is("tidy(50)", Counters.livedShut().tidy(50), 1);
    }

    private static LuggageCounter openWithAMove() {
        LuggageCounter x = Counters.livedShut();
        x.hours(0, 1440);
        return x;
    }

    private static void open() {
        int[] moves = {0, 1, 50};
        for (int n : moves) {
            Unchanged.by("tidy(" + n + ") while open", P15TidyTest::openWithAMove, x -> x.tidy(n), -1);
        }
        LuggageCounter x = twoMoves();
        x.hours(600, 700);
        Days.goTo(x, 0, 600);
        Due.is("as it opens", x.tidy(1), -1);
        Days.goTo(x, 0, 699);
        Due.is("the last minute", x.tidy(1), -1);
        Days.goTo(x, 0, 700);
        Due.is("as it shuts", x.tidy(1), 1);
        LuggageCounter y = twoMoves();
        y.hours(600, 700);
        Days.goTo(y, 0, 599);
        Due.is("a minute before it opens", y.tidy(1), 1);
    }

    private static void noMoves() {
        Unchanged.by("tidy(0)", Counters::livedShut, x -> x.tidy(0), 0);
    }

    /** Shut; thing 0 would fall by 10 on shelf 1, thing 1 by 47 on shelf 2. */
    private static LuggageCounter twoMoves() {
        LuggageCounter x = new LuggageCounter();
        x.shelf(60, 2, false, 50);
        x.put(1, 0, false, false, 0, 39 * 60);
        x.put(1, 0, false, false, 0, 0);
        x.shelf(60, 2, false, 40);
        x.shelf(60, 2, false, 3);
        x.hours(1, 2);
        return x;
    }

    private static void upToN() {
        Due.is("one of two", twoMoves().tidy(1), 1);
        Due.is("two of two", twoMoves().tidy(2), 2);
        Due.is("there are no more", twoMoves().tidy(3), 2);
        LuggageCounter x = twoMoves();
        x.tidy(2);
        Due.is("nothing is left", x.tidy(50), 0);
    }

    private static LuggageCounter sixtyMoves() {
        LuggageCounter x = new LuggageCounter();
        x.shelf(60, 2, false, 99);
        for (int i = 0; i < 60; i++) {
            x.put(1, 0, false, false, 0, 0);
        }
        x.shelf(60, 2, false, 1);
        x.hours(1, 2);
        return x;
    }

    private static void fiftyAtMost() {
        Due.is("tidy(49)", sixtyMoves().tidy(49), 49);
        Due.is("tidy(51)", sixtyMoves().tidy(51), -1);
        LuggageCounter x = sixtyMoves();
        Due.is("tidy(50)", x.tidy(50), 50);
        Due.is("steps", x.count(10), 60 * 198 + 50 * 100);
        Due.is("the 50th is moved", x.thing(49, 8), 1);
        Due.is("the 51st isn't", x.thing(50, 8), 0);
        Due.is("the others", x.tidy(50), 10);
        Due.is("misfit", x.misfit(), 0);
    }

    private static void greatestFallFirst() {
        LuggageCounter x = twoMoves();
        Due.is("misfit", x.misfit(), 10 + 49);
        Due.is("one move", x.tidy(1), 1);
        Due.is("thing 1 goes first", x.thing(1, 8), 2);
        Due.is("thing 0 stays", x.thing(0, 8), 0);
        Due.is("steps", x.count(10), 200 + 53);
        Due.is("the other move", x.tidy(50), 1);
        Due.is("thing 0 goes", x.thing(0, 8), 1);
        Due.is("steps", x.count(10), 200 + 53 + 90);
        Due.is("misfit", x.misfit(), 2);
        Due.is("loads", 100 * x.shelfOf(0, 5) + 10 * x.shelfOf(1, 5) + x.shelfOf(2, 5), 11);
        Due.is("room free", x.shelfOf(0, 4), 60);
        Due.is("room free", x.shelfOf(1, 4), 59);
    }

    private static void leastThingThenShelf() {
        LuggageCounter x = new LuggageCounter();
        x.shelf(60, 2, false, 50);
        x.put(1, 0, false, false, 0, 20 * 60);
        x.put(1, 0, false, false, 0, 20 * 60);
        x.shelf(1, 2, false, 24);
        x.shelf(1, 2, false, 18);
        x.shelf(1, 2, false, 18);
        x.shelf(1, 2, false, 24);
        x.hours(1, 2);
        x.tidy(1);
        Due.is("wanted 21: 18 and 24 are as near, the least number wins", x.thing(0, 8), 1);
        Due.is("thing 1 stays", x.thing(1, 8), 0);
        x.tidy(1);
        Due.is("then shelf 2", x.thing(1, 8), 2);
        LuggageCounter y = new LuggageCounter();
        y.shelf(60, 2, false, 50);
        y.put(1, 0, false, false, 0, 20 * 60);
        y.put(1, 0, false, false, 0, 29 * 60);
        y.shelf(60, 2, false, 30);
        y.shelf(60, 2, false, 21);
        y.hours(1, 2);
        y.tidy(1);
        Due.is("thing 0 falls by 29, thing 1 by 20", 10 * y.thing(0, 8) + y.thing(1, 8), 20);
        y.tidy(1);
        Due.is("thing 1 goes to shelf 1", 10 * y.thing(0, 8) + y.thing(1, 8), 21);
    }

    private static LuggageCounter asNear() {
        LuggageCounter x = new LuggageCounter();
        x.shelf(60, 2, false, 12);
        x.put(1, 0, false, false, 0, 9 * 60);
        x.shelf(60, 2, false, 8);
        x.shelf(60, 2, false, 7);
        x.hours(1, 2);
        return x;
    }

    private static void onlyIfItFalls() {
        Unchanged.by("one as near, one farther", P15TidyTest::asNear, x -> x.tidy(5), 0);
        LuggageCounter x = asNear();
        x.shelf(60, 2, false, 9);
        Due.is("nearer by 1", x.tidy(5), 1);
        Due.is("there", x.thing(0, 8), 3);
    }

    private static LuggageCounter oneShelf() {
        LuggageCounter x = new LuggageCounter();
        x.shelf(60, 2, false, 99);
        x.put(1, 0, false, false, 0, 0);
        x.put(20, 0, false, false, 0, 0);
        x.hours(1, 2);
        return x;
    }

    private static void notItsOwnShelf() {
        Unchanged.by("there is no other", P15TidyTest::oneShelf, x -> x.tidy(50), 0);
    }

    private static LuggageCounter fitsNoOther() {
        LuggageCounter x = new LuggageCounter();
        x.shelf(60, 2, false, 90);
        x.put(5, 1, false, false, 0, 0);
        x.shelf(60, 2, true, 1);
        x.shelf(60, 0, false, 1);
        x.shelf(4, 2, false, 1);
        x.hours(1, 2);
        return x;
    }

    private static void movesKeepToWhatFits() {
        Unchanged.by("fits none of the others", P15TidyTest::fitsNoOther, x -> x.tidy(5), 0);
        LuggageCounter x = fitsNoOther();
        x.shelf(5, 1, false, 60);
        Due.is("fits just this", x.tidy(5), 1);
        Due.is("there", x.thing(0, 8), 4);
        LuggageCounter y = new LuggageCounter();
        y.shelf(60, 2, true, 90);
        y.put(5, 1, true, false, 0, 0);
        y.shelf(60, 2, false, 1);
        y.shelf(60, 2, true, 89);
        y.hours(1, 2);
        Due.is("cold goes to cold", y.tidy(5), 1);
        Due.is("there", y.thing(0, 8), 2);
    }

    private static void roomIsFreedByMoves() {
        LuggageCounter x = new LuggageCounter();
        x.shelf(5, 2, false, 50);
        x.put(5, 0, false, false, 0, 0);
        x.shelf(5, 2, false, 60);
        x.put(5, 0, false, false, 0, 49 * 60);
        x.shelf(5, 2, false, 1);
        x.hours(1, 2);
        Due.is("thing 0 goes, then thing 1 takes its place", x.tidy(50), 2);
        Due.is("thing 0", x.thing(0, 8), 2);
        Due.is("thing 1", x.thing(1, 8), 0);
        Due.is("steps", x.count(10), 100 + 120 + 51 + 110);
        Due.is("full", x.shelfOf(0, 4), 0);
        Due.is("empty", x.shelfOf(1, 4), 5);
        Due.is("full", x.shelfOf(2, 4), 0);
    }

    private static LuggageCounter itsOwnIsTorn() {
        LuggageCounter x = new LuggageCounter();
        x.shelf(60, 2, false, 50);
        x.put(1, 0, false, false, 0, 0);
        x.shelf(60, 2, false, 20);
        x.shelf(60, 2, false, 1);
        x.hours(1, 2);
        x.tear(0);
        return x;
    }

    private static void tornShelvesAreLeftAlone() {
        Unchanged.by("its own is torn", P15TidyTest::itsOwnIsTorn, x -> x.tidy(5), 0);
        LuggageCounter x = itsOwnIsTorn();
        x.mend(0);
        x.tear(2);
        Due.is("the best is torn", x.tidy(5), 1);
        Due.is("the next best", x.thing(0, 8), 1);
        x.mend(2);
        Due.is("the best is mended", x.tidy(5), 1);
        Due.is("there", x.thing(0, 8), 2);
    }

    private static void onlyWhatIsIn() {
        LuggageCounter x = twoMoves();
        x.hours(0, 1440);
        x.give(Tickets.of(1));
        x.hours(1, 2);
        Due.is("the given isn't moved", x.tidy(5), 1);
        Due.is("thing 0 is", x.thing(0, 8), 1);
    }

    /** 16 shelves and 120 things; the last thing alone stands wrong, and the last shelf is the best for it. */
    private static void fullCounter() {
        LuggageCounter x = new LuggageCounter();
        x.shelf(60, 2, false, 1);
        x.shelf(60, 2, false, 1);
        for (int i = 0; i < 119; i++) {
            x.put(1, 0, false, false, 0, 0);
        }
        x.put(1, 0, false, false, 0, 49 * 60);
        for (int i = 2; i < 16; i++) {
            x.shelf(1, 2, false, 34 + i);
        }
        x.hours(1, 2);
        Due.is("shelf 15 has 49 steps, thing 119 wants 50", x.tidy(50), 1);
        Due.is("there", x.thing(119, 8), 15);
        Due.is("misfit", x.misfit(), 1);
        Due.is("tidy again", x.tidy(50), 0);
    }

    private static LuggageCounter emptyAndShut() {
        LuggageCounter x = new LuggageCounter();
        x.hours(1, 2);
        return x;
    }

    private static void nothingToTidy() {
        Unchanged.by("tidy(50) of nothing", P15TidyTest::emptyAndShut, x -> x.tidy(50), 0);
        LuggageCounter x = emptyAndShut();
        x.shelf(60, 2, false, 1);
        Due.is("a shelf without things", x.tidy(50), 0);
    }
}
