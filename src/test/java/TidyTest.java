/** Promise 14: misfit; promise 15: tidy; promise 16: least. */
public final class TidyTest {
    public static void main(String[] args) {
        misfitIsTheSum();
        tidyRefuses();
        greatestFallFirst();
        leastThingThenShelf();
        noMoveWithoutFall();
        movesKeepToWhatFits();
        tornShelvesAreLeftAlone();
        fiftyMoves();
        leastOfAllWays();
        leastKeepsToWhatFits();
        leastWithTornShelves();
        leastOfFiveAndNotSix();
        Due.end();
    }

    private static void misfitIsTheSum() {
        LuggageCounter x = new LuggageCounter();
        x.shelf(60, 2, false, 10);
        x.put(1, 0, false, false, 0, 0);
        x.put(1, 0, false, false, 0, 12 * 60);
        x.put(1, 0, false, false, 0, 20 * 60);
        Due.is("misfit", x.misfit(), 9 + 3 + 11);
        x.give(Tickets.of(2));
        Due.is("less the given", x.misfit(), 9 + 3);
        x.tear(0);
        Due.is("torn ones count", x.misfit(), 9 + 3);
        x.clock(60);
        Due.is("an hour later", x.misfit(), 9 + 2);
    }

    private static void tidyRefuses() {
        LuggageCounter x = new LuggageCounter();
        Due.is("open", x.tidy(1), -1);
        Due.is("open, no move", x.tidy(0), -1);
        x.hours(1, 2);
        int[] wrong = {-1, 51, Integer.MAX_VALUE, Integer.MIN_VALUE};
        for (int n : wrong) {
            Due.is("tidy(" + n + ")", x.tidy(n), -1);
        }
        Due.is("tidy(0)", x.tidy(0), 0);
        Due.is("tidy(50)", x.tidy(50), 0);
    }

    private static void greatestFallFirst() {
        LuggageCounter x = new LuggageCounter();
        x.shelf(60, 2, false, 50);
        x.put(1, 0, false, false, 0, 39 * 60);
        x.put(1, 0, false, false, 0, 0);
        x.shelf(60, 2, false, 40);
        x.shelf(60, 2, false, 3);
        x.hours(1, 2);
        Due.is("misfit", x.misfit(), 10 + 49);
        Due.is("no move", x.tidy(0), 0);
        Due.is("one move", x.tidy(1), 1);
        Due.is("thing 1 goes first", x.thing(1, 8), 2);
        Due.is("thing 0 stays", x.thing(0, 8), 0);
        Due.is("steps", x.count(10), 200 + 53);
        Due.is("the other move", x.tidy(50), 1);
        Due.is("thing 0 goes", x.thing(0, 8), 1);
        Due.is("steps", x.count(10), 200 + 53 + 90);
        Due.is("misfit", x.misfit(), 2);
        Due.is("nothing left", x.tidy(50), 0);
        Due.is("loads", 100 * x.shelfOf(0, 5) + 10 * x.shelfOf(1, 5) + x.shelfOf(2, 5), 11);
        Due.is("room free", x.shelfOf(0, 4), 60);
        Due.is("room free", x.shelfOf(1, 4), 59);
    }

    private static void leastThingThenShelf() {
        LuggageCounter x = new LuggageCounter();
        x.shelf(60, 2, false, 50);
        x.put(1, 0, false, false, 0, 20 * 60);
        x.put(1, 0, false, false, 0, 20 * 60);
        x.shelf(1, 2, false, 24);
        x.shelf(1, 2, false, 18);
        x.shelf(1, 2, false, 18);
        x.shelf(1, 2, false, 24);
        x.hours(1, 2);
        x.tidy(1);
        Due.is("wanted 21: 18 and 24 are as near, the least number wins", x.thing(0, 8), 1);
        Due.is("thing 1 stays", x.thing(1, 8), 0);
        x.tidy(1);
        Due.is("then shelf 2", x.thing(1, 8), 2);
    }

    private static void noMoveWithoutFall() {
        LuggageCounter x = new LuggageCounter();
        x.shelf(60, 2, false, 12);
        x.put(1, 0, false, false, 0, 9 * 60);
        x.shelf(60, 2, false, 8);
        x.hours(1, 2);
        Due.is("as near", x.tidy(5), 0);
        x.shelf(60, 2, false, 9);
        Due.is("nearer by 1", x.tidy(5), 1);
        Due.is("there", x.thing(0, 8), 2);
    }

    private static void movesKeepToWhatFits() {
        LuggageCounter x = new LuggageCounter();
        x.shelf(60, 2, false, 90);
        x.put(5, 1, false, false, 0, 0);
        x.shelf(60, 2, true, 1);
        x.shelf(60, 0, false, 1);
        x.shelf(4, 2, false, 1);
        x.hours(1, 2);
        Due.is("fits none of the others", x.tidy(5), 0);
        x.shelf(5, 1, false, 60);
        Due.is("fits just this", x.tidy(5), 1);
        Due.is("there", x.thing(0, 8), 4);
        x.give(11);
        Due.is("shut for give", x.thing(0, 7), 0);
        x.hours(0, 1440);
        x.give(11);
        x.hours(1, 2);
        Due.is("the given isn't moved", x.tidy(5), 0);
    }

    private static void tornShelvesAreLeftAlone() {
        LuggageCounter x = new LuggageCounter();
        x.shelf(60, 2, false, 50);
        x.put(1, 0, false, false, 0, 0);
        x.shelf(60, 2, false, 20);
        x.shelf(60, 2, false, 1);
        x.hours(1, 2);
        x.tear(0);
        Due.is("its own is torn", x.tidy(5), 0);
        x.mend(0);
        x.tear(2);
        Due.is("the best is torn", x.tidy(5), 1);
        Due.is("the next best", x.thing(0, 8), 1);
        x.mend(2);
        Due.is("the best is mended", x.tidy(5), 1);
        Due.is("there", x.thing(0, 8), 2);
    }

    private static void fiftyMoves() {
        LuggageCounter x = new LuggageCounter();
        x.shelf(60, 2, false, 99);
        for (int i = 0; i < 60; i++) {
            x.put(1, 0, false, false, 0, 0);
        }
        x.shelf(60, 2, false, 1);
        x.hours(1, 2);
        Due.is("up to 50", x.tidy(50), 50);
        Due.is("the others", x.tidy(50), 10);
        Due.is("misfit", x.misfit(), 0);
    }

    private static void leastOfAllWays() {
        LuggageCounter x = new LuggageCounter();
        x.shelf(3, 2, false, 10);
        x.shelf(3, 2, false, 30);
        x.put(3, 0, false, false, 0, 0);
        x.put(2, 0, false, false, 0, 8 * 60);
        Due.is("misfit", x.misfit(), 9 + 21);
        Due.is("the other way is as good", x.least(), 1 + 29);
        x.shelf(1, 2, false, 1);
        Due.is("too small a shelf changes nothing", x.least(), 30);
        x.shelf(3, 2, false, 2);
        Due.is("now it's better", x.least(), 1 + 1);
        Due.is("nothing is moved", x.misfit(), 30);
        x.hours(1, 2);
        x.tidy(50);
        Due.is("greatest falls first don't find it: thing 1 goes where thing 0 should", x.misfit(), 9 + 7);
    }

    private static void leastKeepsToWhatFits() {
        LuggageCounter x = new LuggageCounter();
        x.shelf(60, 2, false, 90);
        x.put(5, 1, false, false, 0, 0);
        x.put(5, 1, false, false, 0, 0);
        x.shelf(60, 2, true, 1);
        x.shelf(60, 0, false, 1);
        x.shelf(4, 2, false, 1);
        Due.is("fits none of the others", x.least(), 178);
        x.shelf(9, 1, false, 10);
        Due.is("one has room", x.least(), 89 + 9);
        x.shelf(10, 1, false, 20);
        Due.is("both have, on two shelves", x.least(), 9 + 19);
        x.shelf(10, 1, false, 11);
        Due.is("and better", x.least(), 9 + 10);
        x.shelf(10, 1, false, 2);
        Due.is("and both on one", x.least(), 2);
    }

    private static void leastWithTornShelves() {
        LuggageCounter x = new LuggageCounter();
        x.shelf(60, 2, false, 50);
        x.put(1, 0, false, false, 0, 0);
        x.put(1, 0, false, false, 0, 49 * 60);
        x.shelf(60, 2, false, 1);
        Due.is("none is torn", x.least(), 0);
        x.tear(1);
        Due.is("the better is torn", x.least(), 49);
        x.tear(0);
        Due.is("all are torn", x.least(), 49);
        x.mend(1);
        Due.is("their own is torn", x.least(), 49);
    }

    private static void leastOfFiveAndNotSix() {
        LuggageCounter x = new LuggageCounter();
        x.shelf(6, 2, false, 99);
        for (int i = 0; i < 5; i++) {
            x.put(1, 0, false, false, 0, i * 60);
        }
        for (int i = 0; i < 15; i++) {
            x.shelf(1, 2, false, 1 + i);
        }
        Due.is("five", x.least(), 0);
        x.tear(3);
        x.tear(4);
        Due.is("five with two torn shelves: 1, 2, 5, 6, 7 for 1 to 5", x.least(), 6);
        x.put(1, 0, false, false, 0, 0);
        Due.is("six", x.least(), -1);
        x.tear(x.thing(5, 8));
        Due.is("six, one on a torn shelf", x.least(), 0 + 1 + 3 + 3 + 3 + 3);
        x.give(Tickets.of(0));
        Due.is("four and one", x.least(), 0 + 0 + 2 + 2 + 2);
    }
}
