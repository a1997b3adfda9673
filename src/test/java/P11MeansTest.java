/** Promise 11: means. Terms: a CLAIM MEANS the things that are IN with all told marks. */
public final class P11MeansTest {
    public static void main(String[] args) {
        nothingToldMeansAll();
        allToldMarksCount();
        onlyWhatIsIn();
        noThings();
        hundredAndTwenty();
        doneClaim();
        noSuchClaim();
        Due.end();
    }

    private static void nothingToldMeansAll() {
        Unchanged.by("means(2)", Counters::lived, x -> x.means(2), 4);
    }

    private static void allToldMarksCount() {
        Unchanged.by("means(1)", Counters::lived, x -> x.means(1), 1);
        Unchanged.by("means(3)", Counters::lived, x -> x.means(3), 0);
        LuggageCounter x = Counters.lived();
        x.mark(1, 0, -1);
        Due.is("things 5 and 9", x.means(1), 2);
        x.mark(1, 3, 2);
        Due.is("one mark of four is another", x.means(1), 0);
    }

    private static void onlyWhatIsIn() {
        LuggageCounter x = new LuggageCounter();
        x.shelf(60, 2, false, 4);
        x.claim();
        for (int i = 0; i < 5; i++) {
            x.put(1, 0, false, i == 2, 0x1234, 0);
            Due.is("after put " + i, x.means(0), i + 1);
        }
        x.give(Tickets.of(0));
        Due.is("less the given", x.means(0), 4);
        x.tear(0);
        Due.is("torn shelves count", x.means(0), 4);
        x.mend(0);
        Days.goTo(x, 7, 0);
        x.sell(1, 1);
        Due.is("less the sold", x.means(0), 3);
        x.sell(2, 1);
        Due.is("less the handed over", x.means(0), 2);
        x.pay(Tickets.of(1));
        Due.is("paid out", x.means(0), 2);
        x.sell(3, 1);
        Days.goTo(x, 38, 0);
        Due.is("fallen", x.means(0), 1);
    }

    private static void noThings() {
        LuggageCounter x = new LuggageCounter();
        x.claim();
        Due.is("means", x.means(0), 0);
        Due.is("mark", x.mark(0, 0, 0), 0);
    }

    private static void hundredAndTwenty() {
        LuggageCounter x = new LuggageCounter();
        x.shelf(60, 2, false, 1);
        x.shelf(60, 2, false, 2);
        for (int i = 0; i < 120; i++) {
            x.put(1, 0, false, false, 0xFFFF, 0);
        }
        x.claim();
        Due.is("nothing told", x.means(0), 120);
        Counters.tell(x, 0, 15, 15, 15, 15);
        Due.is("all told", x.means(0), 120);
    }

    private static void doneClaim() {
        LuggageCounter x = Counters.lived();
        Due.is("what it got isn't in", x.means(0), 0);
        x.put(1, 0, false, false, 0x4321, 0);
        Due.is("another one like it", x.means(0), 1);
    }

    private static void noSuchClaim() {
        for (int claim : Bounds.outside(0, 3)) {
            Unchanged.by("means(" + claim + ")", Counters::lived, x -> x.means(claim), -1);
        }
        Due.is("means(39)", Counters.full().means(39), 120);
        Due.is("means(40)", Counters.full().means(40), -1);
    }
}
