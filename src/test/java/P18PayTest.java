/** Promise 18: pay. */
public final class P18PayTest {
    /** Of a thing of size 2, due on day 0 and sold on day 7: base, 8 days, 7 of them twice. */
    private static final int FEE = 10 + 7 + 7 * 14;

    public static void main(String[] args) {
        lessTheFee();
        coinsAndFeeAlike();
        withoutPrices();
        theLastThing();
        wrongTickets();
        noSuchThing();
        notSold();
        notOpen();
        tornShelfDoesNotMatter();
        tillTheyFall();
        refusalsComeInTheirOrder();
        Due.end();
    }

    private static LuggageCounter sold(int coins) {
        LuggageCounter x = new LuggageCounter();
        x.shelf(60, 2, false, 6);
        x.prices(0, 10, 5, 1, 0);
        x.put(2, 0, false, false, 0, 0);
        x.clock(7 * 1440);
        x.sell(0, coins);
        return x;
    }

    private static void lessTheFee() {
        LuggageCounter x = sold(1000);
        x.clock(3 * 1440);
        Due.is("left", x.pay(11), 1000 - FEE);
        Due.is("till", x.count(8), FEE);
        Due.is("kept", x.count(9), 0);
        Due.is("how", x.thing(0, 7), 3);
        Due.is("coins", x.thing(0, 11), 0);
        Due.is("day", x.thing(0, 12), 7);
        Due.is("steps", x.count(10), 24);
        Due.is("pay again", x.pay(11), -4);
        Due.is("till has it once", x.count(8), FEE);
    }

    private static void coinsAndFeeAlike() {
        int[][] rows = {{0, 0, 0}, {1, 0, 1}, {FEE - 1, 0, FEE - 1}, {FEE, 0, FEE}, {FEE + 1, 1, FEE},
            {100000, 100000 - FEE, FEE}};
        for (int[] row : rows) {
            LuggageCounter x = sold(row[0]);
            Due.is("left of " + row[0], x.pay(11), row[1]);
            Due.is("till of " + row[0], x.count(8), row[2]);
            Due.is("kept of " + row[0], x.count(9), 0);
            Due.is("how of " + row[0], x.thing(0, 7), 3);
        }
    }

    private static void withoutPrices() {
        LuggageCounter x = new LuggageCounter();
        x.shelf(60, 2, false, 6);
        x.put(2, 0, false, false, 0, 0);
        x.clock(7 * 1440);
        x.sell(0, 77);
        Due.is("all is left", x.pay(11), 77);
        Due.is("till", x.count(8), 0);
    }

    private static void theLastThing() {
        LuggageCounter x = Counters.full();
        Days.goTo(x, 11, 0);
        Due.is("sell(118, 50000)", x.sell(118, 50000), 0);
        Due.is("sell(119, 0)", x.sell(119, 0), 1);
        int fee = x.fee(Tickets.of(118));
        Due.is("pay of thing 118", x.pay(Tickets.of(118)), 50000 - fee);
        Due.is("pay of thing 119, handed over", x.pay(Tickets.of(119)), -4);
        Due.is("how", x.thing(118, 7), 3);
    }

    private static void wrongTickets() {
        int[] wrong = {-89, -1, 0, 10, 12, Tickets.of(2) - 1, Tickets.of(2) + 1, -Tickets.of(2),
            Tickets.of(10) + 1, Integer.MIN_VALUE, Integer.MAX_VALUE};
        for (int ticket : wrong) {
            Unchanged.by("pay(" + ticket + ")", Counters::lived, x -> x.pay(ticket), -2);
        }
    }

    private static void noSuchThing() {
        Unchanged.by("thing 10", Counters::lived, x -> x.pay(Tickets.of(10)), -3);
        Unchanged.by("thing 119", Counters::lived, x -> x.pay(Tickets.of(119)), -3);
    }

    private static void notSold() {
        Unchanged.by("given", Counters::lived, x -> x.pay(Tickets.of(0)), -4);
        Unchanged.by("fallen", Counters::lived, x -> x.pay(Tickets.of(1)), -4);
        Unchanged.by("handed over", Counters::lived, x -> x.pay(Tickets.of(3)), -4);
        Unchanged.by("paid out", Counters::lived, x -> x.pay(Tickets.of(4)), -4);
        Unchanged.by("in", Counters::lived, x -> x.pay(Tickets.of(5)), -4);
        Unchanged.by("given to a claim", Counters::lived, x -> x.pay(Tickets.of(8)), -4);
        Due.is("sold", Counters.lived().pay(Tickets.of(2)), 900 - (100 + 16 + 14 * 32));
    }

    private static void notOpen() {
        Unchanged.by("shut", Counters::livedShut, x -> x.pay(Tickets.of(2)), -6);
        LuggageCounter x = Counters.livedShut();
        Days.goTo(x, 41, 599);
        Due.is("a minute before it opens", x.pay(Tickets.of(2)), -6);
        Days.goTo(x, 41, 600);
        Due.is("as it opens", x.pay(Tickets.of(2)), 336);
        LuggageCounter y = Counters.lived();
        Days.goTo(y, 40, 1199);
        Due.is("the last minute", y.pay(Tickets.of(2)), 336);
    }

    private static void tornShelfDoesNotMatter() {
        LuggageCounter x = sold(1000);
        x.tear(0);
        Due.is("where it stood is torn", x.pay(11), 1000 - FEE);
    }

    private static void tillTheyFall() {
        LuggageCounter x = sold(1000);
        Days.goTo(x, 37, 1439);
        Due.is("the last minute of 30 days", x.pay(11), 1000 - FEE);
        LuggageCounter y = sold(1000);
        Days.goTo(y, 38, 0);
        Due.is("a minute later", y.pay(11), -4);
        Due.is("till", y.count(8), 1000);
    }

    private static void refusalsComeInTheirOrder() {
        Due.is("wrong ticket, shut", Counters.livedShut().pay(12), -2);
        Due.is("no such thing, shut", Counters.livedShut().pay(Tickets.of(10)), -3);
        Due.is("not sold, shut", Counters.livedShut().pay(Tickets.of(5)), -4);
    }
}
