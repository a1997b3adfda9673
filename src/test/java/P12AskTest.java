/** Promise 12: ask. */
public final class P12AskTest {
    public static void main(String[] args) {
        leastOfTheGreatestHeaps();
        ofSeveralTheLowest();
        toldOnesArePassedOver();
        onlyMeantThingsCount();
        twoAreEnough();
        lessThanTwo();
        allAreTold();
        doneClaim();
        noSuchClaim();
        oneHeapOfAll();
        Due.end();
    }

    /** Things with these marks, and claim 0. */
    private static LuggageCounter with(int... marks) {
        LuggageCounter x = new LuggageCounter();
        x.shelf(60, 2, false, 1);
        x.shelf(60, 2, false, 1);
        for (int m : marks) {
            x.put(1, 0, false, false, m, 0);
        }
        x.claim();
        return x;
    }

    private static void leastOfTheGreatestHeaps() {
        Due.is("heaps of 3, 3, 2, 6", with(0x0000, 0x0010, 0x0120, 0x0231, 0x0301, 0x0401).ask(0), 2);
        Due.is("heaps of 2, 1, 2, 2", with(0x0000, 0x0010).ask(0), 1);
        Due.is("heaps of 3, 3, 3, 1", with(0x0000, 0x1000, 0xF000).ask(0), 3);
        Due.is("heaps of 1, 3, 3, 3", with(0x0000, 0x0007, 0x000F).ask(0), 0);
        Due.is("the greatest heap, not how many heaps: 3 of 5 against 2, 2, 1",
                with(0x0000, 0x0000, 0x0010, 0x0011, 0x0032).ask(0), 1);
    }

    private static void ofSeveralTheLowest() {
        Due.is("all are as good", with(0x0000, 0x1111).ask(0), 0);
        Due.is("marks 1 and 2 are as good", with(0x0000, 0x0110).ask(0), 1);
        Due.is("marks 2 and 3 are as good", with(0x0000, 0x1100).ask(0), 2);
        Due.is("none tells them apart", with(0x5555, 0x5555).ask(0), 0);
    }

    private static void toldOnesArePassedOver() {
        LuggageCounter x = with(0x0000, 0x0010, 0x0120, 0x0231, 0x0301, 0x0401);
        x.mark(0, 2, 0);
        Due.is("mark 2 is told: 2, 1, -, 2", x.ask(0), 1);
        x.mark(0, 2, -1);
        Due.is("taken back", x.ask(0), 2);
        LuggageCounter y = with(0x5555, 0x5555);
        for (int k = 0; k < 3; k++) {
            y.mark(0, k, 5);
            Due.is("the lowest that isn't told", y.ask(0), k + 1);
        }
    }

    private static void onlyMeantThingsCount() {
        LuggageCounter x = with(0x0000, 0x0010, 0x0000, 0x0000);
        x.give(Tickets.of(2));
        x.give(Tickets.of(3));
        Due.is("those that are in", x.ask(0), 1);
        LuggageCounter y = with(0x1000, 0x1100, 0x0010, 0x0020, 0x0030);
        y.mark(0, 3, 1);
        Due.is("those with the told mark", y.ask(0), 2);
        Unchanged.by("ask(2)", Counters::lived, z -> z.ask(2), 0);
    }

    private static void twoAreEnough() {
        LuggageCounter x = with(0x0000, 0x1000, 0x1000);
        Due.is("three", x.ask(0), 3);
        x.give(Tickets.of(2));
        Due.is("two", x.ask(0), 3);
        x.give(Tickets.of(1));
        Due.is("one", x.ask(0), -1);
        x.give(Tickets.of(0));
        Due.is("none", x.ask(0), -1);
    }

    private static void lessThanTwo() {
        Unchanged.by("it means one", Counters::lived, x -> x.ask(1), -1);
        Unchanged.by("it means none", Counters::lived, x -> x.ask(3), -1);
    }

    private static LuggageCounter allTold() {
        LuggageCounter x = with(0x1234, 0x1234, 0x1235);
        Counters.tell(x, 0, 4, 3, 2, 1);
        return x;
    }

    private static void allAreTold() {
        Due.is("it means two", allTold().means(0), 2);
        Unchanged.by("all are told", P12AskTest::allTold, x -> x.ask(0), -1);
        LuggageCounter x = allTold();
        x.mark(0, 2, -1);
        Due.is("all but one", x.ask(0), 2);
    }

    private static LuggageCounter doneButMeansTwo() {
        LuggageCounter x = with(0x1234);
        Counters.tell(x, 0, 4, 3, 2);
        x.settle(0);
        x.put(1, 0, false, false, 0x1234, 0);
        x.put(1, 0, false, false, 0x2234, 0);
        return x;
    }

    private static void doneClaim() {
        Due.is("it means two", doneButMeansTwo().means(0), 2);
        Unchanged.by("done", P12AskTest::doneButMeansTwo, x -> x.ask(0), -1);
    }

    private static void noSuchClaim() {
        for (int claim : Bounds.outside(0, 3)) {
            Unchanged.by("ask(" + claim + ")", Counters::lived, x -> x.ask(claim), -1);
        }
        Due.is("ask(39)", Counters.full().ask(39) >= 0, true);
        Due.is("ask(40)", Counters.full().ask(40), -1);
    }

    private static void oneHeapOfAll() {
        int[] marks = new int[120];
        java.util.Arrays.fill(marks, 0xFFFF);
        LuggageCounter x = with(marks);
        Due.is("a heap of 120 in each", x.ask(0), 0);
        x.mark(0, 0, 15);
        x.mark(0, 1, 15);
        Due.is("the lowest not told", x.ask(0), 2);
        marks[119] = 0x0FFF;
        Due.is("a heap of 119", with(marks).ask(0), 3);
    }
}
