/** Promise 5: shelf. Terms: up to 16; ROOM 1 to 60, HEIGHT 0 to 2, cold or not, DISTANCE 1 to 99. */
public final class P05ShelfTest {
    public static void main(String[] args) {
        numberedAsTheyCome();
        roomAtItsBounds();
        heightAtItsBounds();
        distanceAtItsBounds();
        sixteenAtMost();
        wrongOnesDontFillThePlaces();
        Due.end();
    }

    private static void numberedAsTheyCome() {
        LuggageCounter x = new LuggageCounter();
        Due.is("least of all", x.shelf(1, 0, false, 1), 0);
        Due.is("greatest of all", x.shelf(60, 2, true, 99), 1);
        int[] least = {1, 0, 0, 1, 1, 0, 0};
        int[] greatest = {60, 2, 1, 99, 60, 0, 0};
        for (int what = 0; what < 7; what++) {
            Due.is("shelfOf(0, " + what + ")", x.shelfOf(0, what), least[what]);
            Due.is("shelfOf(1, " + what + ")", x.shelfOf(1, what), greatest[what]);
        }
        Due.is("count(0)", x.count(0), 2);
        Due.is("none is walked to", x.count(10), 0);
    }

    private static void roomAtItsBounds() {
        for (int room : Bounds.outside(1, 60)) {
            Unchanged.by("new room " + room, LuggageCounter::new, x -> x.shelf(room, 0, false, 1), -1);
            Unchanged.by("room " + room, Counters::lived, x -> x.shelf(room, 0, true, 1), -1);
        }
        Due.is("room 1", Counters.lived().shelf(1, 1, false, 50), 5);
        Due.is("room 60", Counters.lived().shelf(60, 1, false, 50), 5);
    }

    private static void heightAtItsBounds() {
        for (int height : Bounds.outside(0, 2)) {
            Unchanged.by("new height " + height, LuggageCounter::new, x -> x.shelf(9, height, false, 1), -1);
            Unchanged.by("height " + height, Counters::lived, x -> x.shelf(9, height, true, 1), -1);
        }
        Due.is("height 0", Counters.lived().shelf(9, 0, false, 50), 5);
        Due.is("height 2", Counters.lived().shelf(9, 2, false, 50), 5);
    }

    private static void distanceAtItsBounds() {
        for (int distance : Bounds.outside(1, 99)) {
            Unchanged.by("new distance " + distance, LuggageCounter::new, x -> x.shelf(9, 0, false, distance), -1);
            Unchanged.by("distance " + distance, Counters::lived, x -> x.shelf(9, 0, true, distance), -1);
        }
        Due.is("distance 1", Counters.lived().shelf(9, 1, false, 1), 5);
        Due.is("distance 99", Counters.lived().shelf(9, 1, false, 99), 5);
    }

    private static void sixteenAtMost() {
        LuggageCounter x = new LuggageCounter();
        for (int i = 0; i < 16; i++) {
            Due.is("shelf " + i, x.shelf(5, 1, false, 5), i);
        }
        Due.is("shelf 16", x.shelf(5, 1, false, 5), -1);
        Due.is("count(0)", x.count(0), 16);
        x.tear(3);
        Due.is("a torn one keeps its place", x.shelf(5, 1, false, 5), -1);
        Unchanged.by("shelf 16 of a full one", Counters::full, y -> y.shelf(5, 1, false, 5), -1);
    }

    private static void wrongOnesDontFillThePlaces() {
        LuggageCounter x = new LuggageCounter();
        for (int i = 0; i < 16; i++) {
            Due.is("wrong", x.shelf(61, 0, false, 1), -1);
        }
        Due.is("the first right one", x.shelf(60, 0, false, 1), 0);
    }
}
