/** Promise 9: claim; 10: mark; 11: means; 12: ask; 13: settle; 23: claimOf. */
public final class ClaimTest {
    public static void main(String[] args) {
        fortyAtMost();
        marksAreTold();
        markRefuses();
        meansOnlyWhatIsIn();
        askTakesTheLeastHeap();
        askOfAllAlike();
        askRefuses();
        settleGives();
        settleRefusesInItsOrder();
        othersThatContest();
        claimTells();
        Due.end();
    }

    /** Things 0 to 3 with marks 0x1234, 0x1235, 0x1244, 0x2234. */
    private static LuggageCounter counter() {
        LuggageCounter x = new LuggageCounter();
        x.shelf(60, 2, false, 4);
        x.prices(0, 10, 5, 0, 0);
        x.put(1, 0, false, false, 0x1234, 0);
        x.put(1, 0, false, false, 0x1235, 0);
        x.put(1, 0, false, false, 0x1244, 0);
        x.put(1, 0, false, false, 0x2234, 0);
        return x;
    }

    private static void tell(LuggageCounter x, int claim, int... marks) {
        for (int k = 0; k < marks.length; k++) {
            x.mark(claim, k, marks[k]);
        }
    }

    private static void fortyAtMost() {
        LuggageCounter x = new LuggageCounter();
        for (int i = 0; i < 40; i++) {
            Due.is("claim " + i, x.claim(), i);
        }
        Due.is("claim 40", x.claim(), -1);
        Due.is("claims", x.count(3), 40);
    }

    private static void marksAreTold() {
        LuggageCounter x = counter();
        x.claim();
        Due.is("means all", x.means(0), 4);
        Due.is("mark 0 is 4", x.mark(0, 0, 4), 3);
        Due.is("mark 1 is 3", x.mark(0, 1, 3), 2);
        Due.is("mark 2 is 2", x.mark(0, 2, 2), 2);
        Due.is("mark 3 is 1", x.mark(0, 3, 1), 1);
        Due.is("mark 3 is 2", x.mark(0, 3, 2), 1);
        Due.is("mark 3 is 15", x.mark(0, 3, 15), 0);
        Due.is("mark 3 is taken back", x.mark(0, 3, -1), 2);
        Due.is("mark 3 is taken back again", x.mark(0, 3, -1), 2);
        Due.is("mark 0 is 0", x.mark(0, 0, 0), 0);
        Due.is("means", x.means(0), 0);
    }

    private static void markRefuses() {
        LuggageCounter x = counter();
        x.claim();
        x.mark(0, 0, 4);
        int[] places = {-1, 4, 10, Integer.MAX_VALUE, Integer.MIN_VALUE};
        for (int k : places) {
            Due.is("mark(0, " + k + ", 1)", x.mark(0, k, 1), -1);
        }
        int[] values = {-2, 16, Integer.MAX_VALUE, Integer.MIN_VALUE};
        for (int v : values) {
            Due.is("mark(0, 0, " + v + ")", x.mark(0, 0, v), -1);
        }
        int[] claims = {-1, 1, 40, Integer.MAX_VALUE, Integer.MIN_VALUE};
        for (int c : claims) {
            Due.is("mark(" + c + ", 0, 1)", x.mark(c, 0, 1), -1);
            Due.is("means(" + c + ")", x.means(c), -1);
        }
        Due.is("nothing is done", x.claimOf(0, 10), 4);
        Due.is("one is told", x.claimOf(0, 0), 1);
    }

    private static void meansOnlyWhatIsIn() {
        LuggageCounter x = counter();
        x.claim();
        x.give(Tickets.of(1));
        Due.is("less the given", x.means(0), 3);
        x.tear(0);
        Due.is("torn shelves count", x.means(0), 3);
        x.mend(0);
        x.clock(7 * 1440);
        x.sell(0, 1);
        Due.is("less the sold", x.means(0), 2);
    }

    private static void askTakesTheLeastHeap() {
        LuggageCounter x = counter();
        x.claim();
        Due.is("3 alike in marks 0, 1 and 3, 4 in mark 2", x.ask(0), 0);
        x.mark(0, 0, 4);
        Due.is("2 alike in marks 1 and 3, 3 in mark 2", x.ask(0), 1);
        x.mark(0, 1, 3);
        Due.is("2 alike in mark 2, 1 in mark 3", x.ask(0), 3);
        x.mark(0, 3, 1);
        Due.is("it means one", x.ask(0), -1);
        LuggageCounter y = new LuggageCounter();
        y.shelf(60, 2, false, 1);
        int[] marks = {0x0000, 0x0010, 0x0120, 0x0231, 0x0301, 0x0401};
        for (int m : marks) {
            y.put(1, 0, false, false, m, 0);
        }
        y.claim();
        Due.is("heaps of 3, 3, 2, 6", y.ask(0), 2);
        y.mark(0, 2, 0);
        Due.is("mark 2 is told: 2, 1, -, 2", y.ask(0), 1);
    }

    private static void askOfAllAlike() {
        LuggageCounter x = new LuggageCounter();
        x.shelf(60, 2, false, 1);
        x.shelf(60, 2, false, 2);
        for (int i = 0; i < 120; i++) {
            x.put(1, 0, false, false, 0xFFFF, 0);
        }
        x.claim();
        Due.is("a heap of 120 in each", x.ask(0), 0);
        x.mark(0, 0, 15);
        x.mark(0, 1, 15);
        Due.is("the lowest not told", x.ask(0), 2);
        Due.is("means", x.means(0), 120);
    }

    private static void askRefuses() {
        LuggageCounter x = counter();
        x.put(1, 0, false, false, 0x1234, 0);
        x.claim();
        tell(x, 0, 4, 3, 2, 1);
        Due.is("all are told, it means 2", x.means(0), 2);
        Due.is("all are told", x.ask(0), -1);
        x.claim();
        x.mark(1, 0, 9);
        Due.is("it means none", x.ask(1), -1);
        x.claim();
        tell(x, 2, 5, 3, 2);
        Due.is("it means one", x.ask(2), -1);
        x.settle(2);
        x.put(1, 0, false, false, 0x1235, 0);
        x.put(1, 0, false, false, 0x2235, 0);
        Due.is("done, though it means 2", x.means(2), 2);
        Due.is("done", x.ask(2), -1);
        int[] claims = {-1, 3, 40, Integer.MAX_VALUE, Integer.MIN_VALUE};
        for (int c : claims) {
            Due.is("ask(" + c + ")", x.ask(c), -1);
        }
    }

    private static void settleGives() {
        LuggageCounter x = counter();
        x.claim();
        tell(x, 0, 5, 3, 2);
        x.clock(1440);
        Due.is("settle", x.settle(0), 10 + 5 + 10 + 500);
        Due.is("till", x.count(8), 525);
        Due.is("steps", x.count(10), 40);
        Due.is("how", x.thing(1, 7), 1);
        Due.is("shelf", x.thing(1, 8), -1);
        Due.is("room", x.shelfOf(0, 4), 57);
        Due.is("done", x.claimOf(0, 1), 1);
        Due.is("got", x.claimOf(0, 2), 1);
        Due.is("its marks are still told", x.claimOf(0, 0), 3);
        Due.is("settle again", x.settle(0), -2);
        Due.is("mark again", x.mark(0, 3, 1), -1);
        Due.is("means", x.means(0), 0);
        x.claim();
        tell(x, 1, 4, 4, 2, 1);
        Due.is("settle with four marks", x.settle(1), 525);
    }

    private static void settleRefusesInItsOrder() {
        LuggageCounter x = counter();
        x.hours(10, 20);
        x.tear(0);
        int[] claims = {-1, 0, 40, Integer.MAX_VALUE, Integer.MIN_VALUE};
        for (int c : claims) {
            Due.is("settle(" + c + ")", x.settle(c), -2);
        }
        x.claim();
        tell(x, 0, 5, 3);
        Due.is("two marks, means one", x.settle(0), -3);
        tell(x, 0, 9, 9);
        Due.is("two marks, means none", x.settle(0), -3);
        x.mark(0, 2, 2);
        Due.is("three marks, means none", x.settle(0), -4);
        tell(x, 0, 4, 3, 2);
        Due.is("three marks, means two", x.settle(0), -5);
        tell(x, 0, 5, 3, 2);
        x.claim();
        tell(x, 1, -1, 3, 2, 1);
        Due.is("the other means two", x.settle(0), -7);
        x.mark(1, 0, 5);
        Due.is("the other means it alone, too", x.settle(0), -6);
        x.mark(1, 0, -1);
        Due.is("shut", x.settle(0), -7);
        x.clock(10);
        Due.is("torn", x.settle(0), -8);
        Due.is("nothing is done", x.claimOf(0, 1), 0);
        Due.is("nothing is got", x.claimOf(0, 2), -1);
        Due.is("nothing is paid", x.count(8), 0);
        x.mend(0);
        Due.is("settled at last", x.settle(0), 515);
        Due.is("done", x.settle(0), -2);
    }

    private static void othersThatContest() {
        LuggageCounter x = counter();
        for (int i = 0; i < 4; i++) {
            x.claim();
        }
        tell(x, 0, 5, 3, 2);
        tell(x, 1, 5, 3);
        Due.is("the other has two marks", x.means(1), 1);
        tell(x, 2, 4, 4, 2);
        Due.is("another one means another thing", x.means(2), 1);
        tell(x, 3, 5, 3, 2, 1);
        Due.is("one with four marks contests", x.settle(0), -6);
        Due.is("and is contested", x.settle(3), -6);
        x.mark(3, 0, 9);
        Due.is("no more", x.settle(0), 515);
        x.put(1, 0, false, false, 0x1235, 0);
        x.mark(3, 0, 5);
        Due.is("a done one doesn't contest", x.settle(3), 515);
        Due.is("got", x.claimOf(3, 2), 4);
    }

    private static void claimTells() {
        LuggageCounter x = counter();
        x.claim();
        int[] fresh = {0, 0, -1};
        for (int what = 0; what < 3; what++) {
            Due.is("new claimOf(0, " + what + ")", x.claimOf(0, what), fresh[what]);
        }
        for (int k = 0; k < 4; k++) {
            Due.is("new mark " + k, x.claimOf(0, 10 + k), -1);
        }
        x.mark(0, 1, 0);
        x.mark(0, 3, 15);
        int[] told = {-1, 0, -1, 15};
        for (int k = 0; k < 4; k++) {
            Due.is("mark " + k, x.claimOf(0, 10 + k), told[k]);
        }
        Due.is("told", x.claimOf(0, 0), 2);
        int[] none = {-1, 3, 9, 14, Integer.MAX_VALUE, Integer.MIN_VALUE};
        for (int n : none) {
            Due.is("claimOf(0, " + n + ")", x.claimOf(0, n), -1);
            Due.is("claimOf(" + n + ", 0)", x.claimOf(n, 0), -1);
        }
        Due.is("claimOf(1, 0)", x.claimOf(1, 0), -1);
    }
}
