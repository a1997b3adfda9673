/** Promise 6: put. Terms: THINGS, FITS, MISFIT, TICKET. */
public final class P06PutTest {
    public static void main(String[] args) {
        ticketsCheckThemselves();
        whatItKeeps();
        sizeAtItsBounds();
        heightAtItsBounds();
        marksAtTheirBounds();
        dueAtItsBounds();
        notOpen();
        hundredAndTwentyAtMost();
        fitsNoneWithoutShelves();
        heightAsGreat();
        coldJustIfWanted();
        asMuchRoomFree();
        tornFitsNothing();
        refusalsComeInTheirOrder();
        leastMisfit();
        thenLeastDistance();
        thenLeastNumber();
        Due.end();
    }

    private static void ticketsCheckThemselves() {
        LuggageCounter x = new LuggageCounter();
        x.shelf(60, 0, false, 1);
        int[] tickets = {11, 148, 285, 325, 462, 502};
        for (int ticket : tickets) {
            Due.is("put", x.put(1, 0, false, false, 0, 0), ticket);
        }
        Due.is("steps", x.count(10), 12);
    }

    private static void whatItKeeps() {
        LuggageCounter x = new LuggageCounter();
        x.shelf(60, 2, true, 99);
        x.shelf(60, 2, false, 1);
        x.clock(77);
        Due.is("greatest of all", x.put(20, 2, true, true, 65535, 100000), 11);
        Due.is("least of all", x.put(1, 0, false, false, 0, 0), 148);
        int[] greatest = {20, 2, 1, 1, 65535, 100000, 77, 0, 0, 99, 0, 0, -1};
        int[] least = {1, 0, 0, 0, 0, 0, 77, 0, 1, 1, 0, 0, -1};
        for (int what = 0; what <= 12; what++) {
            Due.is("thing(0, " + what + ")", x.thing(0, what), greatest[what]);
            Due.is("thing(1, " + what + ")", x.thing(1, what), least[what]);
        }
        Due.is("things", x.count(1), 2);
        Due.is("in", x.count(2), 2);
        Due.is("room free", x.shelfOf(0, 4), 40);
        Due.is("on it", x.shelfOf(0, 5), 1);
        Due.is("steps", x.count(10), 2 * 99 + 2);
        Due.is("till", x.count(8), 0);
    }

    private static void sizeAtItsBounds() {
        for (int size : Bounds.outside(1, 20)) {
            Unchanged.by("size " + size, Counters::lived, x -> x.put(size, 0, false, false, 0, 0), -2);
        }
        Due.is("size 1", wide().put(1, 0, false, false, 0, 0), 11);
        Due.is("size 20", wide().put(20, 0, false, false, 0, 0), 11);
    }

    private static LuggageCounter wide() {
        LuggageCounter x = new LuggageCounter();
        x.shelf(60, 2, false, 50);
        return x;
    }

    private static void heightAtItsBounds() {
        for (int height : Bounds.outside(0, 2)) {
            Unchanged.by("height " + height, Counters::lived, x -> x.put(1, height, false, false, 0, 0), -2);
        }
        Due.is("height 0", wide().put(1, 0, false, false, 0, 0), 11);
        Due.is("height 2", wide().put(1, 2, false, false, 0, 0), 11);
    }

    private static void marksAtTheirBounds() {
        for (int marks : Bounds.outside(0, 65535)) {
            Unchanged.by("marks " + marks, Counters::lived, x -> x.put(1, 0, false, false, marks, 0), -2);
        }
        Due.is("marks 0", wide().put(1, 0, false, false, 0, 0), 11);
        Due.is("marks 65535", wide().put(1, 0, false, false, 65535, 0), 11);
    }

    private static void dueAtItsBounds() {
        for (int due : Bounds.outside(0, 100000)) {
            Unchanged.by("due " + due, Counters::lived, x -> x.put(1, 0, false, false, 0, due), -2);
        }
        Due.is("due 0", wide().put(1, 0, false, false, 0, 0), 11);
        Due.is("due 100000", wide().put(1, 0, false, false, 0, 100000), 11);
        LuggageCounter x = wide();
        x.clock(100000);
        Due.is("a due that is past", x.put(1, 0, false, false, 0, 99999), 11);
        Due.is("a due that is now", x.put(1, 0, false, false, 0, 100000), 148);
    }

    private static void notOpen() {
        Unchanged.by("put while shut", Counters::livedShut, x -> x.put(1, 0, false, false, 0, 0), -3);
        LuggageCounter x = wide();
        x.hours(600, 700);
        Days.goTo(x, 1, 599);
        Due.is("a minute before it opens", x.put(1, 0, false, false, 0, 0), -3);
        Days.goTo(x, 1, 600);
        Due.is("as it opens", x.put(1, 0, false, false, 0, 0), 11);
        Days.goTo(x, 1, 699);
        Due.is("the last minute", x.put(1, 0, false, false, 0, 0), 148);
        Days.goTo(x, 1, 700);
        Due.is("as it shuts", x.put(1, 0, false, false, 0, 0), -3);
    }

    private static void hundredAndTwentyAtMost() {
        LuggageCounter x = new LuggageCounter();
        x.shelf(60, 0, false, 1);
        x.shelf(60, 0, false, 1);
        for (int i = 0; i < 120; i++) {
            Due.is("put " + i, x.put(1, 0, false, false, 0, 0), Tickets.of(i));
        }
        Due.is("put 120", x.put(1, 0, false, false, 0, 0), -4);
        Due.is("things", x.count(1), 120);
        Due.is("in", x.count(2), 120);
        Due.is("room free", x.shelfOf(0, 4) + x.shelfOf(1, 4), 0);
        x.give(Tickets.of(119));
        Due.is("a given one keeps its number", x.put(1, 0, false, false, 0, 0), -4);
        Unchanged.by("put 120 of a full one", Counters::full, y -> y.put(1, 0, false, false, 0, 0), -4);
    }

    private static void fitsNoneWithoutShelves() {
        LuggageCounter x = new LuggageCounter();
        Due.is("no shelves", x.put(1, 0, false, false, 0, 0), -5);
        Due.is("no thing", x.count(1), 0);
        x.shelf(1, 0, false, 1);
        Due.is("its number isn't used up", x.put(1, 0, false, false, 0, 0), 11);
    }

    private static void heightAsGreat() {
        for (int height = 0; height <= 2; height++) {
            for (int shelf = 0; shelf <= 2; shelf++) {
                LuggageCounter x = new LuggageCounter();
                x.shelf(60, shelf, false, 1);
                int due = shelf >= height ? 11 : -5;
                Due.is("height " + height + " on " + shelf, x.put(1, height, false, false, 0, 0), due);
            }
        }
        Unchanged.by("too high", Counters::lived, x -> x.put(1, 2, true, false, 0, 0), -5);
    }

    private static LuggageCounter oneShelf(boolean cold) {
        LuggageCounter x = new LuggageCounter();
        x.shelf(10, 1, cold, 1);
        return x;
    }

    private static void coldJustIfWanted() {
        Due.is("cold on cold", oneShelf(true).put(1, 0, true, false, 0, 0), 11);
        Due.is("warm on warm", oneShelf(false).put(1, 0, false, false, 0, 0), 11);
        Unchanged.by("cold on warm", () -> oneShelf(false), x -> x.put(1, 0, true, false, 0, 0), -5);
        Unchanged.by("warm on cold", () -> oneShelf(true), x -> x.put(1, 0, false, false, 0, 0), -5);
    }

    private static LuggageCounter filledUp() {
        LuggageCounter x = oneShelf(false);
        x.put(10, 0, false, false, 0, 0);
        return x;
    }

    private static void asMuchRoomFree() {
        Unchanged.by("one more than the room", () -> oneShelf(false), x -> x.put(11, 0, false, false, 0, 0), -5);
        Due.is("all the room", oneShelf(false).put(10, 0, false, false, 0, 0), 11);
        Unchanged.by("no room left", P06PutTest::filledUp, x -> x.put(1, 0, false, false, 0, 0), -5);
        LuggageCounter x = oneShelf(false);
        x.put(4, 0, false, false, 0, 0);
        Due.is("one more than is free", x.put(7, 0, false, false, 0, 0), -5);
        Due.is("all that is free", x.put(6, 0, false, false, 0, 0), 148);
        x.give(11);
        Due.is("one more than is free again", x.put(5, 0, false, false, 0, 0), -5);
        Due.is("all that is free again", x.put(4, 0, false, false, 0, 0), 285);
        LuggageCounter y = wide();
        for (int i = 0; i < 60; i++) {
            Due.is("60 of size 1", y.put(1, 0, false, false, 0, 0), Tickets.of(i));
        }
        Due.is("the 61st", y.put(1, 0, false, false, 0, 0), -5);
        LuggageCounter z = wide();
        for (int i = 0; i < 3; i++) {
            Due.is("3 of size 20", z.put(20, 0, false, false, 0, 0), Tickets.of(i));
        }
        Due.is("then size 1", z.put(1, 0, false, false, 0, 0), -5);
    }

    private static LuggageCounter allTorn() {
        LuggageCounter x = wide();
        x.shelf(60, 2, false, 1);
        x.tear(0);
        x.tear(1);
        return x;
    }

    private static void tornFitsNothing() {
        Unchanged.by("all are torn", P06PutTest::allTorn, x -> x.put(1, 0, false, false, 0, 0), -5);
        LuggageCounter x = allTorn();
        x.mend(0);
        Due.is("one is mended", x.put(1, 0, false, false, 0, 0), 11);
        Due.is("it goes there, though the torn one is nearer", x.thing(0, 8), 0);
        x.mend(1);
        x.put(1, 0, false, false, 0, 0);
        Due.is("both are mended", x.thing(1, 8), 1);
    }

    private static void refusalsComeInTheirOrder() {
        LuggageCounter x = Counters.full();
        x.hours(600, 700);
        Due.is("wrong, shut, full, fits none", x.put(0, 0, false, false, 0, 0), -2);
        for (int shelf = 0; shelf < 16; shelf++) {
            x.tear(shelf);
        }
        Due.is("shut, full, fits none", x.put(1, 0, false, false, 0, 0), -3);
        x.clock(600);
        Due.is("full, fits none", x.put(1, 0, false, false, 0, 0), -4);
        LuggageCounter y = new LuggageCounter();
        y.hours(600, 700);
        Due.is("wrong, shut, fits none", y.put(1, 0, false, false, -1, 0), -2);
        Due.is("shut, fits none", y.put(1, 0, false, false, 0, 0), -3);
        y.clock(600);
        Due.is("wrong, fits none", y.put(1, 0, false, false, 0, -1), -2);
        Due.is("fits none", y.put(1, 0, false, false, 0, 0), -5);
    }

    /** A thing that wants 11 on shelves of so many steps, each with room for one. */
    private static void takes(String name, int[] distances, int... order) {
        LuggageCounter x = new LuggageCounter();
        for (int distance : distances) {
            x.shelf(5, 2, false, distance);
        }
        for (int i = 0; i < order.length; i++) {
            x.put(5, 0, false, false, 0, 600);
            Due.is(name + ", thing " + i, x.thing(i, 8), order[i]);
        }
    }

    private static void leastMisfit() {
        takes("just as wanted first", new int[] {12, 11, 10}, 1);
        takes("by how far they are off", new int[] {99, 15, 8, 1}, 2, 1, 3, 0);
    }

    private static void thenLeastDistance() {
        takes("12 and 10 are as near", new int[] {12, 10}, 1, 0);
        takes("10 and 12 are as near", new int[] {10, 12}, 0, 1);
        takes("1 and 21 are as near", new int[] {21, 1, 22}, 1, 0, 2);
    }

    private static void thenLeastNumber() {
        takes("all alike", new int[] {8, 8, 8}, 0, 1, 2);
        takes("14 and twice 8", new int[] {14, 8, 8}, 1, 2, 0);
    }
}
