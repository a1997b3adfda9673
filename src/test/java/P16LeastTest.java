/** Promise 16: least. */
public final class P16LeastTest {
    public static void main(String[] args) {
        noneIsIn();
        ofAllWays();
        oneThatStandsBadly();
        keepsToWhatFits();
        roomJustEnough();
        fiveAndNotSix();
        onlyWhatIsIn();
        fiveOfHundredAndTwenty();
        tornOnesDontCountAmongTheFive();
        tornShelvesStayAsTheyAre();
        fiveOnSixteenShelves();
        changesNothing();
        Due.end();
    }

    private static void noneIsIn() {
        LuggageCounter x = new LuggageCounter();
        Due.is("no things", x.least(), 0);
        x.shelf(60, 2, false, 50);
        Due.is("a shelf without things", x.least(), 0);
        x.tear(0);
        Due.is("a torn one", x.least(), 0);
    }

    private static void ofAllWays() {
        LuggageCounter x = new LuggageCounter();
        x.shelf(3, 2, false, 10);
        x.shelf(3, 2, false, 30);
        x.put(3, 0, false, false, 0, 0);
        x.put(2, 0, false, false, 0, 8 * 60);
        Due.is("misfit", x.misfit(), 9 + 21);
        Due.is("the other way is as good", x.least(), 1 + 29);
        x.shelf(1, 2, false, 1);
        Due.is("too small a shelf changes nothing", x.least(), 30);
        x.shelf(3, 2, false, 2);
        Due.is("now it's better", x.least(), 1 + 1);
        Due.is("nothing is moved", x.misfit(), 30);
        x.hours(1, 2);
        x.tidy(50);
        Due.is("greatest falls first don't find it: thing 1 goes where thing 0 should", x.misfit(), 9 + 7);
        Due.is("it's there still", x.least(), 2);
    }

    /** Every thing counts, and each once: four that want 1 and one that wants 50, which comes as the first to fifth. */
    private static void oneThatStandsBadly() {
        for (int bad = 0; bad < 5; bad++) {
            LuggageCounter x = new LuggageCounter();
            x.shelf(60, 2, false, 1);
            for (int i = 0; i < 5; i++) {
                x.put(1, 0, false, false, 0, i == bad ? 49 * 60 : 0);
            }
            Due.is("on one shelf", x.least(), 49);
            x.shelf(60, 2, false, 2);
            x.shelf(60, 2, false, 3);
            Due.is("on three shelves", x.least(), 47);
            x.shelf(60, 2, false, 50);
            Due.is("on four shelves", x.least(), 0);
        }
    }

    private static void keepsToWhatFits() {
        LuggageCounter x = new LuggageCounter();
        x.shelf(60, 2, false, 90);
        x.put(5, 1, false, false, 0, 0);
        x.put(5, 1, false, false, 0, 0);
        x.shelf(60, 2, true, 1);
        x.shelf(60, 0, false, 1);
        x.shelf(4, 2, false, 1);
        Due.is("fits none of the others", x.least(), 178);
        x.shelf(9, 1, false, 10);
        Due.is("one has room", x.least(), 89 + 9);
        x.shelf(10, 1, false, 20);
        Due.is("both have, on two shelves", x.least(), 9 + 19);
        x.shelf(10, 1, false, 11);
        Due.is("and better", x.least(), 9 + 10);
        x.shelf(10, 1, false, 2);
        Due.is("and both on one", x.least(), 2);
    }

    /** Three things of 20, 20 and 19 that want 1: the near shelf holds so much. */
    private static LuggageCounter nearRoom(int room) {
        LuggageCounter x = new LuggageCounter();
        x.shelf(60, 0, false, 11);
        x.put(20, 0, false, false, 0, 0);
        x.put(20, 0, false, false, 0, 0);
        x.put(19, 0, false, false, 0, 0);
        x.shelf(room, 0, false, 1);
        return x;
    }

    private static void roomJustEnough() {
        Due.is("room for all", nearRoom(59).least(), 0);
        Due.is("one too little", nearRoom(58).least(), 10);
        Due.is("room for two", nearRoom(39).least(), 10);
        Due.is("one too little for two", nearRoom(38).least(), 20);
        Due.is("room for one", nearRoom(19).least(), 20);
        Due.is("one too little for one", nearRoom(18).least(), 30);
    }

    private static LuggageCounter things(int n) {
        LuggageCounter x = new LuggageCounter();
        x.shelf(60, 2, false, 3);
        for (int i = 0; i < n; i++) {
            x.put(1, 0, false, false, 0, 0);
        }
        return x;
    }

    private static void fiveAndNotSix() {
        for (int n = 0; n <= 5; n++) {
            Due.is(n + " things", things(n).least(), 2 * n);
        }
        Unchanged.by("5 things", () -> things(5), x -> x.least(), 10);
        Unchanged.by("6 things", () -> things(6), x -> x.least(), -1);
        Due.is("60 things", things(60).least(), -1);
        Unchanged.by("120 things", Counters::full, x -> x.least(), -1);
    }

    private static void onlyWhatIsIn() {
        LuggageCounter x = things(6);
        x.give(Tickets.of(3));
        Due.is("one of six is given", x.least(), 10);
        x.put(1, 0, false, false, 0, 0);
        Due.is("another comes", x.least(), -1);
        Days.goTo(x, 7, 0);
        x.sell(0, 5);
        Due.is("one is sold", x.least(), 10);
    }

    /** On a shelf that is full with the last five of them. */
    private static LuggageCounter lastFiveOfHundredAndTwenty() {
        LuggageCounter x = new LuggageCounter();
        x.shelf(5, 2, false, 3);
        for (int i = 0; i < 120; i++) {
            x.put(1, 0, false, false, 0, 0);
            if (i < 115) {
                x.give(Tickets.of(i));
            }
        }
        return x;
    }

    private static void fiveOfHundredAndTwenty() {
        Unchanged.by("115 are given", P16LeastTest::lastFiveOfHundredAndTwenty, x -> x.least(), 10);
        LuggageCounter x = lastFiveOfHundredAndTwenty();
        Due.is("misfit", x.misfit(), 10);
        x.give(Tickets.of(119));
        Due.is("116 are given", x.least(), 8);
    }

    private static void tornOnesDontCountAmongTheFive() {
        LuggageCounter x = things(10);
        Due.is("ten", x.least(), -1);
        x.tear(0);
        Due.is("ten on a torn shelf", x.least(), 20);
        x.shelf(60, 2, false, 5);
        for (int i = 0; i < 5; i++) {
            x.put(1, 0, false, false, 0, 0);
        }
        Due.is("ten on a torn shelf, five on another", x.least(), 20 + 20);
        x.put(1, 0, false, false, 0, 0);
        Due.is("and six", x.least(), -1);
        x.tear(1);
        Due.is("all are torn", x.least(), 20 + 24);
        x.mend(0);
        Due.is("ten are not", x.least(), -1);
    }

    private static void tornShelvesStayAsTheyAre() {
        LuggageCounter x = new LuggageCounter();
        x.shelf(60, 2, false, 50);
        x.put(1, 0, false, false, 0, 0);
        x.put(1, 0, false, false, 0, 49 * 60);
        x.shelf(60, 2, false, 1);
        Due.is("none is torn", x.least(), 0);
        x.tear(1);
        Due.is("the better is torn", x.least(), 49);
        x.tear(0);
        Due.is("all are torn", x.least(), 49);
        x.mend(1);
        Due.is("their own is torn", x.least(), 49);
        x.mend(0);
        Due.is("all are mended", x.least(), 0);
    }

    private static void fiveOnSixteenShelves() {
        LuggageCounter x = new LuggageCounter();
        x.shelf(6, 2, false, 99);
        for (int i = 0; i < 5; i++) {
            x.put(1, 0, false, false, 0, i * 60);
        }
        for (int i = 0; i < 15; i++) {
            x.shelf(1, 2, false, 1 + i);
        }
        Due.is("five", x.least(), 0);
        x.tear(3);
        x.tear(4);
        Due.is("two shelves are torn: 1, 2, 5, 6, 7 for 1 to 5", x.least(), 6);
        x.put(1, 0, false, false, 0, 0);
        Due.is("six", x.least(), -1);
        x.tear(x.thing(5, 8));
        Due.is("six, one on a torn shelf", x.least(), 0 + 1 + 3 + 3 + 3 + 3);
        x.give(Tickets.of(0));
        Due.is("four and one", x.least(), 0 + 0 + 2 + 2 + 2);
    }

    private static void changesNothing() {
        Unchanged.by("least() while shut", Counters::livedShut, x -> x.least(), 4 + 10 + 8 + 2);
        Unchanged.by("least()", Counters::lived, x -> x.least(), 0);
    }
}
