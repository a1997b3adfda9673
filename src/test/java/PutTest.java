/** Promise 6: put; promise 22: thing. */
public final class PutTest {
    public static void main(String[] args) {
        ticketsCheckThemselves();
        putRefuses();
        refusalsComeInTheirOrder();
        hundredAndTwentyAtMost();
        fits();
        leastMisfitThenDistanceThenNumber();
        thingTells();
        wantedAndMisfit();
        thingsThatAreNotIn();
        noSuchThing();
        Due.end();
    }

    private static void ticketsCheckThemselves() {
        LuggageCounter x = new LuggageCounter();
        x.shelf(60, 0, false, 1);
        int[] tickets = {11, 148, 285, 325, 462, 502};
        for (int ticket : tickets) {
            Due.is("put", x.put(1, 0, false, false, 0, 0), ticket);
        }
        Due.is("steps", x.count(10), 12);
    }

    private static void putRefuses() {
        LuggageCounter x = new LuggageCounter();
        x.shelf(60, 2, false, 1);
        int[] sizes = {0, 21, -1, Integer.MAX_VALUE, Integer.MIN_VALUE};
        for (int size : sizes) {
            Due.is("size " + size, x.put(size, 0, false, false, 0, 0), -2);
        }
        int[] heights = {-1, 3, Integer.MAX_VALUE, Integer.MIN_VALUE};
        for (int height : heights) {
            Due.is("height " + height, x.put(1, height, false, false, 0, 0), -2);
        }
        int[] marks = {-1, 65536, Integer.MAX_VALUE, Integer.MIN_VALUE};
        for (int m : marks) {
            Due.is("marks " + m, x.put(1, 0, false, false, m, 0), -2);
        }
        int[] dues = {-1, 100001, Integer.MAX_VALUE, Integer.MIN_VALUE};
        for (int due : dues) {
            Due.is("due " + due, x.put(1, 0, false, false, 0, due), -2);
        }
        Due.is("nothing is done", x.count(1), 0);
        Due.is("no steps", x.count(10), 0);
        Due.is("all at the edge", x.put(20, 2, false, true, 65535, 100000), 11);
    }

    private static void refusalsComeInTheirOrder() {
        LuggageCounter x = new LuggageCounter();
        x.hours(10, 20);
        Due.is("wrong and shut", x.put(0, 0, false, false, 0, 0), -2);
        Due.is("shut and fits none", x.put(1, 0, false, false, 0, 0), -3);
        x.clock(10);
        Due.is("open and fits none", x.put(1, 0, false, false, 0, 0), -5);
        x.shelf(60, 2, false, 1);
        Due.is("open", x.put(1, 0, false, false, 0, 0), 11);
        x.clock(10);
        Due.is("shut again", x.put(1, 0, false, false, 0, 0), -3);
    }

    private static void hundredAndTwentyAtMost() {
        LuggageCounter x = new LuggageCounter();
        x.shelf(1, 0, false, 1);
        for (int i = 0; i < 120; i++) {
            Due.is("put " + i, x.put(1, 0, false, false, 0, 0), Tickets.of(i));
            Due.is("give " + i, x.give(Tickets.of(i)), 0);
        }
        Due.is("put 120", x.put(1, 0, false, false, 0, 0), -4);
        Due.is("wrong before full", x.put(0, 0, false, false, 0, 0), -2);
        x.tear(0);
        Due.is("full before fits none", x.put(1, 0, false, false, 0, 0), -4);
        x.hours(10, 20);
        Due.is("shut before full", x.put(1, 0, false, false, 0, 0), -3);
        Due.is("things", x.count(1), 120);
        Due.is("in", x.count(2), 0);
        Due.is("none of them is in the way", x.least(), 0);
        Due.is("nor counts", x.misfit(), 0);
        Due.is("the last of them", x.thing(119, 7), 1);
    }

    private static void fits() {
        LuggageCounter x = new LuggageCounter();
        x.shelf(10, 1, false, 1);
        Due.is("too high", x.put(1, 2, false, false, 0, 0), -5);
        Due.is("wants cold", x.put(1, 1, true, false, 0, 0), -5);
        Due.is("too great", x.put(11, 1, false, false, 0, 0), -5);
        Due.is("just as high and great", x.put(10, 1, false, false, 0, 0), 11);
        Due.is("no room left", x.put(1, 0, false, false, 0, 0), -5);
        Due.is("refused ones are no things", x.count(1), 1);
        x.shelf(10, 0, true, 1);
        Due.is("cold isn't for warm", x.put(1, 0, false, false, 0, 0), -5);
        Due.is("cold for cold", x.put(1, 0, true, false, 0, 0), 148);
        x.tear(1);
        Due.is("torn", x.put(1, 0, true, false, 0, 0), -5);
    }

    private static void leastMisfitThenDistanceThenNumber() {
        LuggageCounter x = new LuggageCounter();
        x.shelf(5, 2, false, 14);
        x.shelf(5, 2, false, 8);
        x.shelf(5, 2, false, 8);
        x.shelf(5, 2, false, 12);
        x.put(5, 0, false, false, 0, 720);
        Due.is("wanted 13: 12 before 14", x.thing(0, 8), 3);
        x.put(5, 0, false, false, 0, 600);
        Due.is("wanted 11: 8 and 14 are as near, 8 is nearer, 1 before 2", x.thing(1, 8), 1);
        x.put(5, 0, false, false, 0, 600);
        Due.is("then 2", x.thing(2, 8), 2);
        x.put(5, 0, false, false, 0, 600);
        Due.is("then 0", x.thing(3, 8), 0);
        Due.is("steps", x.count(10), 24 + 16 + 16 + 28);
    }

    private static void thingTells() {
        LuggageCounter x = new LuggageCounter();
        x.shelf(20, 2, true, 30);
        x.shelf(20, 2, false, 40);
        x.clock(100);
        x.put(7, 1, true, false, 0xBEEF, 1300);
        x.clock(20);
        x.put(9, 2, false, true, 0x0123, 1320);
        int[] first = {7, 1, 1, 0, 0xBEEF, 1300, 100, 0, 0, 20, 10, 0, -1};
        int[] second = {9, 2, 0, 1, 0x0123, 1320, 120, 0, 1, 21, 19, 0, -1};
        for (int what = 0; what <= 12; what++) {
            Due.is("thing(0, " + what + ")", x.thing(0, what), first[what]);
            Due.is("thing(1, " + what + ")", x.thing(1, what), second[what]);
        }
    }

    private static void wantedAndMisfit() {
        LuggageCounter x = new LuggageCounter();
        x.shelf(60, 2, false, 50);
        x.put(1, 0, false, false, 0, 59);
        x.put(1, 0, false, false, 0, 60);
        x.put(1, 0, false, false, 0, 97 * 60 + 59);
        x.put(1, 0, false, false, 0, 98 * 60);
        x.put(1, 0, false, false, 0, 99 * 60);
        x.put(1, 0, false, false, 0, 100000);
        int[] wanted = {1, 2, 98, 99, 99, 99};
        for (int i = 0; i < wanted.length; i++) {
            Due.is("wanted of " + i, x.thing(i, 9), wanted[i]);
            Due.is("misfit of " + i, x.thing(i, 10), Math.abs(50 - wanted[i]));
        }
        x.clock(61);
        Due.is("due is past", x.thing(0, 9), 1);
        Due.is("due is past by less than an hour", x.thing(1, 9), 1);
        Due.is("an hour and a minute less", x.thing(2, 9), 97);
        x.clock(1000);
        Due.is("due is past by hours", x.thing(1, 9), 1);
    }

    private static void thingsThatAreNotIn() {
        LuggageCounter x = new LuggageCounter();
        x.shelf(60, 2, false, 3);
        x.put(1, 0, false, false, 9, 300);
        x.give(11);
        Due.is("how", x.thing(0, 7), 1);
        Due.is("shelf", x.thing(0, 8), -1);
        Due.is("wanted is still told", x.thing(0, 9), 6);
        Due.is("misfit", x.thing(0, 10), -1);
        Due.is("coins", x.thing(0, 11), 0);
        Due.is("day of sale", x.thing(0, 12), -1);
        Due.is("marks are still told", x.thing(0, 4), 9);
    }

    private static void noSuchThing() {
        LuggageCounter x = new LuggageCounter();
        x.shelf(60, 2, false, 3);
        x.put(1, 0, false, false, 9, 300);
        int[] none = {-1, 13, 120, Integer.MAX_VALUE, Integer.MIN_VALUE};
        for (int n : none) {
            Due.is("thing(0, " + n + ")", x.thing(0, n), -1);
            Due.is("thing(" + n + ", 0)", x.thing(n, 0), -1);
        }
        Due.is("thing(1, 0)", x.thing(1, 0), -1);
    }
}
