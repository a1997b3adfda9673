/** Promise 24: count. */
public final class P24CountTest {
    public static void main(String[] args) {
        allThatIsCounted();
        fullCounter();
        tillAndCoinsKept();
        stepsOfEachKind();
        othersHaveNone();
        Due.end();
    }

    private static void counts(LuggageCounter x, int... due) {
        for (int what = 0; what < due.length; what++) {
            Due.is("count(" + what + ")", x.count(what), due[what]);
        }
    }

    private static void allThatIsCounted() {
        LuggageCounter x = Counters.lived();
        int till = 100 + 16 + 900 + 100 + 16 + 7 * 32 + 100 + 10 + 18 + 500;
        int steps = 5 * 10 + 5 * 10 + 10 + 60 + 18 + 120 + 120 + 120;
        counts(x, 5, 10, 4, 4, 3, 40 * 1440 + 600, 40, 1, till, 900, steps);
        x.clock(600);
        Due.is("shut", x.count(7), 0);
    }

    private static void fullCounter() {
        LuggageCounter x = Counters.full();
        int[] due = {16, 120, 120, 40, 12, 0, 0, 1, 0, 0};
        counts(x, due);
        x.clock(100000);
        Due.is("minute", x.count(5), 100000);
        Due.is("day", x.count(6), 69);
    }

    private static void tillAndCoinsKept() {
        LuggageCounter x = new LuggageCounter();
        x.shelf(60, 2, false, 1);
        for (int i = 0; i < 60; i++) {
            x.put(1, 0, false, false, 0, 0);
        }
        Days.goTo(x, 7, 0);
        for (int i = 0; i < 60; i++) {
            x.sell(i, 100000);
            Due.is("kept", x.count(9), 100000 * (i + 1));
        }
        Days.goTo(x, 37, 1439);
        Due.is("kept", x.count(9), 6000000);
        Due.is("till", x.count(8), 0);
        Days.goTo(x, 38, 0);
        Due.is("kept", x.count(9), 0);
        Due.is("till", x.count(8), 6000000);
    }

    private static void stepsOfEachKind() {
        LuggageCounter x = new LuggageCounter();
        x.shelf(60, 2, false, 99);
        for (int i = 0; i < 5; i++) {
            x.put(1, 0, false, i == 3, i, 0);
        }
        Due.is("5 put", x.count(10), 5 * 198);
        x.give(Tickets.of(0));
        Due.is("given by ticket", x.count(10), 6 * 198);
        x.claim();
        Counters.tell(x, 0, 1, 0, 0);
        x.settle(0);
        Due.is("given by claim", x.count(10), 7 * 198);
        Days.goTo(x, 7, 0);
        x.sell(2, 5);
        Due.is("sold", x.count(10), 8 * 198);
        x.sell(3, 5);
        Due.is("handed over", x.count(10), 9 * 198);
        x.pay(Tickets.of(2));
        Due.is("nothing for what is paid out", x.count(10), 9 * 198);
        x.shelf(60, 2, false, 1);
        x.hours(1, 2);
        x.tidy(1);
        Due.is("moved", x.count(10), 9 * 198 + 100);
        x.hours(0, 1440);
        x.give(Tickets.of(4));
        Due.is("given from where it stands now", x.count(10), 9 * 198 + 102);
    }

    private static void othersHaveNone() {
        int[] others = {-1, 11, 12, Integer.MAX_VALUE, Integer.MIN_VALUE};
        for (int what : others) {
            Due.is("new count(" + what + ")", new LuggageCounter().count(what), -1);
            Unchanged.by("count(" + what + ")", Counters::lived, x -> x.count(what), -1);
        }
        Unchanged.by("count(0)", Counters::lived, x -> x.count(0), 5);
        Unchanged.by("count(10)", Counters::lived, x -> x.count(10), 548);
    }
}
