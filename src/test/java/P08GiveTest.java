/** Promise 8: give. Terms: a torn shelf's things can't be given, till it's mended. */
public final class P08GiveTest {
    public static void main(String[] args) {
        feeComesIntoTheTill();
        feeOfNothing();
        theLastThing();
        wrongTickets();
        noSuchThing();
        thingsThatAreGone();
        sold();
        notOpen();
        torn();
        refusalsComeInTheirOrder();
        roomIsFreeAgain();
        Due.end();
    }

    private static void feeComesIntoTheTill() {
        LuggageCounter x = new LuggageCounter();
        x.shelf(60, 2, false, 3);
        x.prices(0, 10, 2, 1, 0);
        x.put(5, 0, false, false, 0, 0);
        x.put(4, 0, false, false, 0, 0);
        Due.is("give", x.give(11), 17);
        Due.is("till", x.count(8), 17);
        Due.is("steps", x.count(10), 18);
        Due.is("in", x.count(2), 1);
        x.clock(1440);
        Due.is("give", x.give(148), 10 + 6 + 12);
        Due.is("till", x.count(8), 17 + 28);
        Due.is("how", x.thing(1, 7), 1);
        Due.is("steps", x.count(10), 24);
        Due.is("in", x.count(2), 0);
        Due.is("things", x.count(1), 2);
    }

    private static void feeOfNothing() {
        LuggageCounter x = new LuggageCounter();
        x.shelf(60, 2, false, 3);
        x.put(5, 0, false, true, 0, 0);
        Due.is("give", x.give(11), 0);
        Due.is("how", x.thing(0, 7), 1);
        Due.is("till", x.count(8), 0);
    }

    private static void theLastThing() {
        LuggageCounter x = Counters.full();
        Due.is("give of thing 119", x.give(Tickets.of(119)), 10 + 1 + 16 + 3);
        Due.is("how", x.thing(119, 7), 1);
        Due.is("in", x.count(2), 119);
    }

    private static void wrongTickets() {
        int[] wrong = {-89, -1, 0, 10, 12, Tickets.of(5) - 1, Tickets.of(5) + 1, Tickets.of(5) + 97,
            -Tickets.of(5), Tickets.of(10) + 1, Integer.MIN_VALUE, Integer.MAX_VALUE};
        for (int ticket : wrong) {
            Unchanged.by("give(" + ticket + ")", Counters::lived, x -> x.give(ticket), -2);
        }
    }

    private static void noSuchThing() {
        Unchanged.by("thing 10", Counters::lived, x -> x.give(Tickets.of(10)), -3);
        Unchanged.by("thing 119", Counters::lived, x -> x.give(Tickets.of(119)), -3);
        Due.is("thing 9 is the last", Counters.lived().give(Tickets.of(9)), 100 + 10 + 6);
    }

    private static void thingsThatAreGone() {
        Unchanged.by("given", Counters::lived, x -> x.give(Tickets.of(0)), -4);
        Unchanged.by("fallen", Counters::lived, x -> x.give(Tickets.of(1)), -4);
        Unchanged.by("handed over", Counters::lived, x -> x.give(Tickets.of(3)), -4);
        Unchanged.by("paid out", Counters::lived, x -> x.give(Tickets.of(4)), -4);
        Unchanged.by("given to a claim", Counters::lived, x -> x.give(Tickets.of(8)), -4);
        LuggageCounter x = Counters.lived();
        Due.is("give", x.give(Tickets.of(5)), 119);
        Due.is("give twice", x.give(Tickets.of(5)), -4);
        Due.is("till has it once", x.count(8), Counters.lived().count(8) + 119);
    }

    private static void sold() {
        Unchanged.by("sold", Counters::lived, x -> x.give(Tickets.of(2)), -5);
    }

    private static void notOpen() {
        Unchanged.by("shut", Counters::livedShut, x -> x.give(Tickets.of(5)), -6);
        LuggageCounter x = new LuggageCounter();
        x.shelf(60, 2, false, 3);
        x.put(5, 0, false, false, 0, 0);
        x.put(5, 0, false, false, 0, 0);
        x.put(5, 0, false, false, 0, 0);
        x.hours(600, 700);
        Days.goTo(x, 0, 599);
        Due.is("a minute before it opens", x.give(Tickets.of(0)), -6);
        Days.goTo(x, 0, 600);
        Due.is("as it opens", x.give(Tickets.of(0)), 0);
        Days.goTo(x, 0, 699);
        Due.is("the last minute", x.give(Tickets.of(1)), 0);
        Days.goTo(x, 0, 700);
        Due.is("as it shuts", x.give(Tickets.of(2)), -6);
    }

    private static void torn() {
        Unchanged.by("torn", Counters::lived, x -> x.give(Tickets.of(6)), -7);
        LuggageCounter x = Counters.lived();
        Due.is("a torn shelf stops alone", x.give(Tickets.of(7)), 100 + 10 + 15 + 7);
        x.mend(2);
        Due.is("mended", x.give(Tickets.of(6)), 122);
    }

    private static LuggageCounter shutAndTorn() {
        LuggageCounter x = Counters.livedShut();
        x.tear(0);
        return x;
    }

    private static void refusalsComeInTheirOrder() {
        Due.is("wrong ticket, shut", shutAndTorn().give(12), -2);
        Due.is("no such thing, shut", shutAndTorn().give(Tickets.of(10)), -3);
        Due.is("given, shut", shutAndTorn().give(Tickets.of(0)), -4);
        Due.is("sold, shut", shutAndTorn().give(Tickets.of(2)), -5);
        Unchanged.by("shut and torn", P08GiveTest::shutAndTorn, x -> x.give(Tickets.of(5)), -6);
    }

    private static void roomIsFreeAgain() {
        LuggageCounter x = new LuggageCounter();
        x.shelf(5, 2, false, 3);
        x.put(5, 0, false, false, 0, 0);
        Due.is("full", x.put(5, 0, false, false, 0, 0), -5);
        x.give(11);
        Due.is("free", x.shelfOf(0, 4), 5);
        Due.is("empty", x.shelfOf(0, 5), 0);
        Due.is("room again", x.put(5, 0, false, false, 0, 0), 148);
    }
}
