/** Promise 13: settle. */
public final class P13SettleTest {
    public static void main(String[] args) {
        feeAndFiveHundred();
        threeMarksOrFour();
        noSuchClaim();
        doneClaim();
        fewerMarks();
        meansNone();
        meansMore();
        anotherMeansItToo();
        firstAndLastClaim();
        othersThatDontContest();
        notOpen();
        torn();
        refusalsComeInTheirOrder();
        Due.end();
    }

    private static void feeAndFiveHundred() {
        LuggageCounter x = Counters.lived();
        int till = x.count(8);
        int steps = x.count(10);
        Due.is("settle", x.settle(1), 100 + 10 + 9 + 500);
        Due.is("till", x.count(8), till + 619);
        Due.is("steps", x.count(10), steps + 10);
        Due.is("how", x.thing(5, 7), 1);
        Due.is("shelf", x.thing(5, 8), -1);
        Due.is("room", x.shelfOf(0, 4), 20);
        Due.is("in", x.count(2), 3);
        Due.is("done", x.claimOf(1, 1), 1);
        Due.is("got", x.claimOf(1, 2), 5);
        Due.is("its marks are still told", x.claimOf(1, 0), 3);
        Due.is("means", x.means(1), 0);
    }

    private static void threeMarksOrFour() {
        LuggageCounter x = Counters.lived();
        x.mark(1, 3, 1);
        Due.is("four", x.settle(1), 619);
        for (int k = 0; k < 4; k++) {
            LuggageCounter y = Counters.lived();
            Counters.tell(y, 2, 8, 7, 6, 5);
            y.mark(2, k, -1);
            Due.is("three, all but mark " + k, y.settle(2), 100 + 10 + 15 + 7 + 500);
        }
    }

    private static void noSuchClaim() {
        for (int claim : Bounds.outside(0, 3)) {
            Unchanged.by("settle(" + claim + ")", Counters::lived, x -> x.settle(claim), -2);
        }
        Unchanged.by("settle(40)", Counters::full, x -> x.settle(40), -2);
        Unchanged.by("settle(39)", Counters::full, x -> x.settle(39), -3);
    }

    private static LuggageCounter doneButMeansOne() {
        LuggageCounter x = Counters.lived();
        x.put(1, 0, false, false, 0x4321, 0);
        return x;
    }

    private static void doneClaim() {
        Unchanged.by("done", Counters::lived, x -> x.settle(0), -2);
        Due.is("it means one", doneButMeansOne().means(0), 1);
        Unchanged.by("done, though it means one", P13SettleTest::doneButMeansOne, x -> x.settle(0), -2);
    }

    /** Claim 2 with so many of thing 7's marks told. */
    private static LuggageCounter told(int marks) {
        LuggageCounter x = Counters.lived();
        int[] all = {8, 7, 6, 5};
        for (int k = 0; k < marks; k++) {
            x.mark(2, k, all[k]);
        }
        return x;
    }

    private static void fewerMarks() {
        Unchanged.by("none is told", Counters::lived, x -> x.settle(2), -3);
        Unchanged.by("one is told", () -> told(1), x -> x.settle(2), -3);
        Due.is("it means one", told(2).means(2), 1);
        Unchanged.by("two are told", () -> told(2), x -> x.settle(2), -3);
        Due.is("three are told", told(3).settle(2), 632);
        Due.is("four are told", told(4).settle(2), 632);
    }

    private static LuggageCounter meaningNone() {
        LuggageCounter x = told(3);
        x.mark(2, 2, 7);
        return x;
    }

    private static LuggageCounter meaningAGivenOne() {
        LuggageCounter x = Counters.lived();
        Counters.tell(x, 2, 1, 2, 3);
        return x;
    }

    private static void meansNone() {
        Unchanged.by("means none", P13SettleTest::meaningNone, x -> x.settle(2), -4);
        Unchanged.by("means none of 120", P13SettleTest::fullMeaningNone, x -> x.settle(39), -4);
        Unchanged.by("means a given one", P13SettleTest::meaningAGivenOne, x -> x.settle(2), -4);
    }

    private static LuggageCounter fullMeaningNone() {
        LuggageCounter x = Counters.full();
        Counters.tell(x, 39, 15, 15, 15);
        return x;
    }

    private static LuggageCounter meaningTwo() {
        LuggageCounter x = told(3);
        x.put(1, 0, false, false, 0xF678, 0);
        return x;
    }

    private static void meansMore() {
        Due.is("it means two", meaningTwo().means(2), 2);
        Unchanged.by("means two", P13SettleTest::meaningTwo, x -> x.settle(2), -5);
        LuggageCounter x = meaningTwo();
        x.mark(2, 3, 15);
        Due.is("means one with the fourth", x.settle(2) > 500, true);
        Due.is("got", x.claimOf(2, 2), 10);
    }

    /** Claim 1 means thing 5 alone; claim 2 does, too, with all its marks told. */
    private static LuggageCounter fourAgainstThree() {
        LuggageCounter x = Counters.lived();
        Counters.tell(x, 2, 4, 3, 2, 1);
        return x;
    }

    private static LuggageCounter threeAgainstThree() {
        LuggageCounter x = Counters.lived();
        x.mark(2, 0, 4);
        x.mark(2, 2, 2);
        x.mark(2, 3, 1);
        return x;
    }

    /** Claims 0 and 39 mean thing 119 alone, with three marks each. */
    private static LuggageCounter firstAgainstLast() {
        LuggageCounter x = Counters.full();
        int marks = x.thing(119, 4);
        int[] claims = {0, 39};
        for (int claim : claims) {
            Counters.tell(x, claim, marks & 15, marks >> 4 & 15, marks >> 8 & 15);
        }
        return x;
    }

    private static void firstAndLastClaim() {
        Due.is("claim 0 means one", firstAgainstLast().means(0), 1);
        Unchanged.by("the first against the last", P13SettleTest::firstAgainstLast, x -> x.settle(0), -6);
        Unchanged.by("the last against the first", P13SettleTest::firstAgainstLast, x -> x.settle(39), -6);
        LuggageCounter x = firstAgainstLast();
        x.mark(0, 0, -1);
        Due.is("settle(39)", x.settle(39), 10 + 1 + 16 + 3 + 500);
        Due.is("got", x.claimOf(39, 2), 119);
    }

    private static void anotherMeansItToo() {
        Unchanged.by("another with three", P13SettleTest::threeAgainstThree, x -> x.settle(1), -6);
        Unchanged.by("and the other way", P13SettleTest::threeAgainstThree, x -> x.settle(2), -6);
        Unchanged.by("another with four", P13SettleTest::fourAgainstThree, x -> x.settle(1), -6);
        Unchanged.by("the one with four", P13SettleTest::fourAgainstThree, x -> x.settle(2), -6);
        LuggageCounter x = threeAgainstThree();
        x.mark(2, 3, -1);
        Due.is("a mark is taken back", x.settle(1), 619);
    }

    private static void othersThatDontContest() {
        LuggageCounter x = Counters.lived();
        x.mark(2, 0, 4);
        x.mark(2, 1, 3);
        Due.is("another with two marks means it", x.means(2), 1);
        Due.is("it doesn't count", x.settle(1), 619);
        LuggageCounter y = Counters.lived();
        y.mark(2, 1, 3);
        y.mark(2, 2, 2);
        y.mark(2, 3, 1);
        Due.is("another with three marks means two", y.means(2), 2);
        Due.is("it doesn't count", y.settle(1), 619);
        LuggageCounter z = told(3);
        Due.is("another means another thing", z.settle(1), 619);
        LuggageCounter d = Counters.lived();
        d.settle(1);
        d.put(3, 0, false, false, 0x1234, 0);
        Counters.tell(d, 2, 4, 3, 2);
        Due.is("a done one means it alone, too", d.means(1), 1);
        Due.is("it doesn't count", d.settle(2) > 500, true);
    }

    private static void notOpen() {
        Unchanged.by("shut", Counters::livedShut, x -> x.settle(1), -7);
        LuggageCounter x = Counters.lived();
        Days.goTo(x, 40, 1199);
        Due.is("the last minute", x.settle(1), 619);
        LuggageCounter y = Counters.livedShut();
        Days.goTo(y, 41, 599);
        Due.is("a minute before it opens", y.settle(1), -7);
        Days.goTo(y, 41, 600);
        Due.is("as it opens", y.settle(1) > 500, true);
    }

    private static LuggageCounter aboutTheTorn() {
        LuggageCounter x = Counters.lived();
        Counters.tell(x, 2, 0xD, 0xC, 0xB);
        return x;
    }

    private static void torn() {
        Unchanged.by("torn", P13SettleTest::aboutTheTorn, x -> x.settle(2), -8);
        LuggageCounter x = aboutTheTorn();
        Due.is("a torn shelf stops alone", x.settle(1), 619);
        x.mend(2);
        Due.is("mended", x.settle(2), 100 + 10 + 12 + 500);
    }

    private static void refusalsComeInTheirOrder() {
        LuggageCounter x = Counters.livedShut();
        x.tear(0);
        Due.is("done, shut, torn", x.settle(0), -2);
        x.mark(1, 2, -1);
        Due.is("fewer marks, shut, torn", x.settle(1), -3);
        x.mark(1, 0, 9);
        Due.is("fewer marks, means none", x.settle(1), -3);
        x.mark(1, 2, 2);
        Due.is("means none, shut", x.settle(1), -4);
        x.mark(1, 0, -1);
        x.mark(1, 3, 1);
        Due.is("means two, shut, torn", x.settle(1), -5);
        x.mark(1, 0, 4);
        Counters.tell(x, 2, 4, 3, 2);
        Due.is("another means it, too, shut, torn", x.settle(1), -6);
        x.mark(2, 2, -1);
        Due.is("shut, torn", x.settle(1), -7);
        x.hours(0, 1440);
        Due.is("torn", x.settle(1), -8);
        x.mend(0);
        Due.is("settled at last", x.settle(1), 619);
    }
}
