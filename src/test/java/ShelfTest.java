/** Promise 5: shelf; promises 19 and 20: tear and mend; promise 21: shelfOf. */
public final class ShelfTest {
    public static void main(String[] args) {
        shelvesAreNumbered();
        shelfRefuses();
        sixteenAtMost();
        tearAndMend();
        tornShelfStopsAlone();
        shelfTells();
        Due.end();
    }

    private static void shelvesAreNumbered() {
        LuggageCounter x = new LuggageCounter();
        Due.is("least of all", x.shelf(1, 0, false, 1), 0);
        Due.is("greatest of all", x.shelf(60, 2, true, 99), 1);
        Due.is("count(0)", x.count(0), 2);
    }

    private static void shelfRefuses() {
        LuggageCounter x = new LuggageCounter();
        int[] wrongRooms = {0, 61, -1, Integer.MAX_VALUE, Integer.MIN_VALUE};
        for (int room : wrongRooms) {
            Due.is("room " + room, x.shelf(room, 0, false, 1), -1);
        }
        int[] wrongHeights = {-1, 3, Integer.MAX_VALUE, Integer.MIN_VALUE};
        for (int height : wrongHeights) {
            Due.is("height " + height, x.shelf(1, height, false, 1), -1);
        }
        int[] wrongDistances = {0, 100, -1, Integer.MAX_VALUE, Integer.MIN_VALUE};
        for (int distance : wrongDistances) {
            Due.is("distance " + distance, x.shelf(1, 0, true, distance), -1);
        }
        Due.is("count(0)", x.count(0), 0);
    }

    private static void sixteenAtMost() {
        LuggageCounter x = new LuggageCounter();
        for (int i = 0; i < 16; i++) {
            Due.is("shelf " + i, x.shelf(5, 1, false, 5), i);
        }
        Due.is("shelf 16", x.shelf(5, 1, false, 5), -1);
        Due.is("count(0)", x.count(0), 16);
    }

    private static void tearAndMend() {
        LuggageCounter x = new LuggageCounter();
        Due.is("tear(0) of none", x.tear(0), false);
        Due.is("mend(0) of none", x.mend(0), false);
        x.shelf(5, 1, false, 5);
        Due.is("mend(0) of a whole one", x.mend(0), false);
        Due.is("tear(0)", x.tear(0), true);
        Due.is("torn", x.shelfOf(0, 6), 1);
        Due.is("tear(0) again", x.tear(0), false);
        Due.is("mend(0)", x.mend(0), true);
        Due.is("not torn", x.shelfOf(0, 6), 0);
        Due.is("mend(0) again", x.mend(0), false);
        int[] none = {-1, 1, 15, 16, Integer.MAX_VALUE, Integer.MIN_VALUE};
        for (int s : none) {
            Due.is("tear(" + s + ")", x.tear(s), false);
            Due.is("mend(" + s + ")", x.mend(s), false);
        }
    }

    private static void tornShelfStopsAlone() {
        LuggageCounter x = new LuggageCounter();
        x.shelf(60, 2, false, 1);
        x.shelf(60, 2, false, 50);
        x.put(1, 0, false, false, 0, 0);
        x.put(1, 0, false, false, 0, 3000);
        x.tear(0);
        Due.is("give from the torn one", x.give(Tickets.of(0)), -7);
        Due.is("give from the other", x.give(Tickets.of(1)), 0);
        x.put(1, 0, false, false, 0, 0);
        Due.is("put goes to the other", x.thing(2, 8), 1);
        Due.is("its thing stays IN", x.thing(0, 7), 0);
        Due.is("its thing stays there", x.thing(0, 8), 0);
        x.tear(1);
        Due.is("put fits none", x.put(1, 0, false, false, 0, 0), -5);
        x.mend(0);
        Due.is("give from the mended one", x.give(Tickets.of(0)), 0);
        Due.is("put on the mended one", x.put(1, 0, false, false, 0, 0), Tickets.of(3));
    }

    private static void shelfTells() {
        LuggageCounter x = new LuggageCounter();
        x.shelf(30, 2, true, 77);
        x.shelf(10, 1, false, 8);
        x.put(7, 0, true, false, 0, 0);
        x.put(3, 0, true, false, 0, 0);
        int[] cold = {30, 2, 1, 77, 20, 2, 0};
        int[] warm = {10, 1, 0, 8, 10, 0, 0};
        for (int what = 0; what < 7; what++) {
            Due.is("shelfOf(0, " + what + ")", x.shelfOf(0, what), cold[what]);
            Due.is("shelfOf(1, " + what + ")", x.shelfOf(1, what), warm[what]);
        }
        x.give(Tickets.of(0));
        Due.is("room free again", x.shelfOf(0, 4), 27);
        Due.is("one thing less", x.shelfOf(0, 5), 1);
        x.tear(0);
        Due.is("room free of a torn one", x.shelfOf(0, 4), 27);
        int[] none = {-1, 7, Integer.MAX_VALUE, Integer.MIN_VALUE};
        for (int n : none) {
            Due.is("shelfOf(0, " + n + ")", x.shelfOf(0, n), -1);
            Due.is("shelfOf(" + n + ", 0)", x.shelfOf(n, 0), -1);
        }
        Due.is("shelfOf(2, 0)", x.shelfOf(2, 0), -1);
    }
}
