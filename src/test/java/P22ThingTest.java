/** Promise 22: thing. Terms: WANTED, MISFIT, HOW. */
public final class P22ThingTest {
    public static void main(String[] args) {
        allThatIsTold();
        eachHow();
        wantedAtItsBounds();
        wantedAsTheClockGoesOn();
        placeAndMisfitOnlyWhileIn();
        noSuchThing();
        noSuchWhat();
        Due.end();
    }

    private static void tells(LuggageCounter x, int thing, int... due) {
        for (int what = 0; what < due.length; what++) {
            Due.is("thing(" + thing + ", " + what + ")", x.thing(thing, what), due[what]);
        }
    }

    private static void allThatIsTold() {
        LuggageCounter x = new LuggageCounter();
        x.shelf(20, 2, true, 30);
        x.shelf(20, 2, false, 40);
        x.clock(100);
        x.put(7, 1, true, false, 0xBEEF, 1300);
        x.clock(20);
        x.put(9, 2, false, true, 0x0123, 1320);
        tells(x, 0, 7, 1, 1, 0, 0xBEEF, 1300, 100, 0, 0, 20, 10, 0, -1);
        tells(x, 1, 9, 2, 0, 1, 0x0123, 1320, 120, 0, 1, 21, 19, 0, -1);
    }

    private static void eachHow() {
        LuggageCounter x = Counters.lived();
        int now = 40 * 1440 + 600;
        tells(x, 0, 2, 0, 0, 0, 0x0000, 0, 0, 1, -1, 1, -1, 0, -1);
        tells(x, 1, 2, 0, 0, 0, 0x1111, 0, 0, 4, -1, 1, -1, 0, 7);
        tells(x, 2, 2, 0, 0, 0, 0x2222, 0, 0, 2, -1, 1, -1, 900, 14);
        tells(x, 3, 2, 0, 0, 1, 0x3333, 0, 0, 5, -1, 1, -1, 0, 7);
        tells(x, 4, 2, 0, 0, 0, 0x4444, 0, 0, 3, -1, 1, -1, 0, 7);
        tells(x, 5, 3, 0, 0, 0, 0x1234, now + 240, now, 0, 0, 5, 0, 0, -1);
        tells(x, 6, 4, 2, 0, 0, 0xABCD, now + 29 * 60, now, 0, 2, 30, 0, 0, -1);
        tells(x, 7, 5, 1, 1, 1, 0x5678, now + 480, now, 0, 1, 9, 0, 0, -1);
        tells(x, 8, 6, 0, 0, 0, 0x4321, now + 59 * 60, now, 1, -1, 60, -1, 0, -1);
        tells(x, 9, 2, 0, 0, 0, 0x1235, now + 59 * 60, now, 0, 3, 60, 0, 0, -1);
    }

    private static void wantedAtItsBounds() {
        int[][] rows = {{0, 1}, {1, 1}, {59, 1}, {60, 2}, {119, 2}, {120, 3}, {97 * 60, 98}, {97 * 60 + 59, 98},
            {98 * 60, 99}, {98 * 60 + 59, 99}, {99 * 60, 99}, {100000, 99}};
        for (int[] row : rows) {
            LuggageCounter x = new LuggageCounter();
            x.shelf(60, 2, false, 50);
            x.put(1, 0, false, false, 0, row[0]);
            Due.is("wanted, due " + row[0], x.thing(0, 9), row[1]);
            Due.is("misfit, due " + row[0], x.thing(0, 10), Math.abs(50 - row[1]));
        }
    }

    private static void wantedAsTheClockGoesOn() {
        LuggageCounter x = new LuggageCounter();
        x.shelf(60, 2, false, 2);
        x.put(1, 0, false, false, 0, 200);
        int[][] rows = {{19, 4, 2}, {20, 4, 2}, {21, 3, 1}, {80, 3, 1}, {81, 2, 0}, {140, 2, 0}, {141, 1, 1},
            {200, 1, 1}, {201, 1, 1}, {260, 1, 1}, {261, 1, 1}, {400, 1, 1}, {100000, 1, 1}};
        for (int[] row : rows) {
            x.clock(row[0] - x.count(5));
            Due.is("wanted at " + row[0], x.thing(0, 9), row[1]);
            Due.is("misfit at " + row[0], x.thing(0, 10), row[2]);
        }
    }

    private static void placeAndMisfitOnlyWhileIn() {
        LuggageCounter x = new LuggageCounter();
        x.shelf(60, 2, false, 3);
        x.put(1, 0, false, false, 9, 300);
        Due.is("shelf 0, not NONE", x.thing(0, 8), 0);
        Due.is("misfit", x.thing(0, 10), 3);
        x.give(11);
        tells(x, 0, 1, 0, 0, 0, 9, 300, 0, 1, -1, 6, -1, 0, -1);
    }

    private static void noSuchThing() {
        for (int thing : Bounds.outside(0, 9)) {
            for (int what = 0; what <= 12; what++) {
                Due.is("thing(" + thing + ", " + what + ")", Counters.lived().thing(thing, what), -1);
            }
            Unchanged.by("thing(" + thing + ", 0)", Counters::lived, x -> x.thing(thing, 0), -1);
        }
        Due.is("thing(119, 0) of 120", Counters.full().thing(119, 0), 8);
        Due.is("thing(120, 0) of 120", Counters.full().thing(120, 0), -1);
    }

    private static void noSuchWhat() {
        for (int what : Bounds.outside(0, 12)) {
            for (int thing = 0; thing < 10; thing++) {
                Due.is("thing(" + thing + ", " + what + ")", Counters.lived().thing(thing, what), -1);
            }
        }
        Unchanged.by("thing(2, 13)", Counters::lived, x -> x.thing(2, 13), -1);
        Unchanged.by("thing(2, 12)", Counters::lived, x -> x.thing(2, 12), 14);
    }
}
