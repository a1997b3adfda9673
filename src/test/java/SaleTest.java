/** Promise 17: sell; promise 18: pay; and coins that fall to the house. */
public final class SaleTest {
    public static void main(String[] args) {
        sevenDaysBehindDue();
        sellKeepsCoins();
        sealedIsHandedOver();
        sellRefusesInItsOrder();
        payLeavesTheFee();
        payWithLessThanTheFee();
        payRefusesInItsOrder();
        coinsFallAfterThirtyDays();
        coinsFallOverALongStep();
        Due.end();
    }

    private static LuggageCounter counter() {
        LuggageCounter x = new LuggageCounter();
        x.shelf(60, 2, false, 6);
        x.prices(0, 10, 5, 1, 0);
        return x;
    }

    private static void sevenDaysBehindDue() {
        LuggageCounter x = counter();
        x.put(1, 0, false, false, 0, 2879);
        x.put(1, 0, false, false, 0, 2880);
        x.clock(8 * 1440 - 1);
        Due.is("6 days behind", x.sell(0, 1), -4);
        x.clock(1);
        Due.is("7 days behind day 1", x.sell(0, 1), 0);
        Due.is("6 days behind day 2", x.sell(1, 1), -4);
        x.clock(1440);
        Due.is("7 days behind day 2", x.sell(1, 1), 0);
        Due.is("day of the first", x.thing(0, 12), 8);
        Due.is("day of the second", x.thing(1, 12), 9);
    }

    private static void sellKeepsCoins() {
        LuggageCounter x = counter();
        x.put(2, 0, false, false, 0, 0);
        x.put(2, 0, false, false, 0, 0);
        x.clock(7 * 1440);
        x.hours(700, 701);
        Due.is("sold while shut", x.sell(0, 100000), 0);
        Due.is("sold for nothing", x.sell(1, 0), 0);
        Due.is("how", x.thing(0, 7), 2);
        Due.is("shelf", x.thing(0, 8), -1);
        Due.is("misfit", x.thing(0, 10), -1);
        Due.is("coins", x.thing(0, 11), 100000);
        Due.is("no coins", x.thing(1, 11), 0);
        Due.is("kept", x.count(9), 100000);
        Due.is("till", x.count(8), 0);
        Due.is("steps", x.count(10), 48);
        Due.is("in", x.count(2), 0);
        Due.is("room", x.shelfOf(0, 4), 60);
    }

    private static void sealedIsHandedOver() {
        LuggageCounter x = counter();
        x.put(2, 0, false, true, 0, 0);
        x.clock(7 * 1440 - 1);
        Due.is("too early", x.sell(0, 50), -4);
        x.clock(1);
        Due.is("handed over", x.sell(0, 50), 1);
        Due.is("how", x.thing(0, 7), 5);
        Due.is("coins", x.thing(0, 11), 0);
        Due.is("kept", x.count(9), 0);
        Due.is("day", x.thing(0, 12), 7);
        Due.is("steps", x.count(10), 24);
        Due.is("pay", x.pay(11), -4);
        x.clock(31 * 1440);
        Due.is("it never falls", x.thing(0, 7), 5);
        Due.is("till", x.count(8), 0);
    }

    private static void sellRefusesInItsOrder() {
        LuggageCounter x = counter();
        x.put(2, 0, false, false, 0, 0);
        x.put(2, 0, false, false, 0, 0);
        x.give(148);
        x.tear(0);
        int[] none = {-1, 2, 120, Integer.MAX_VALUE, Integer.MIN_VALUE};
        for (int n : none) {
            Due.is("sell(" + n + ", 5)", x.sell(n, 5), -2);
        }
        int[] coins = {-1, 100001, Integer.MAX_VALUE, Integer.MIN_VALUE};
        for (int c : coins) {
            Due.is("sell(1, " + c + ")", x.sell(1, c), -2);
        }
        Due.is("given, early and torn", x.sell(1, 5), -3);
        Due.is("early and torn", x.sell(0, 5), -4);
        x.clock(7 * 1440);
        Due.is("torn", x.sell(0, 5), -5);
        Due.is("nothing is done", x.thing(0, 12), -1);
        Due.is("still in", x.thing(0, 7), 0);
        x.mend(0);
        Due.is("sold", x.sell(0, 5), 0);
        Due.is("sold twice", x.sell(0, 5), -3);
    }

    private static void payLeavesTheFee() {
        LuggageCounter x = counter();
        x.put(2, 0, false, false, 0, 0);
        x.clock(7 * 1440);
        x.sell(0, 1000);
        x.clock(3 * 1440);
        int fee = 10 + 7 + 7 * 14;
        Due.is("left", x.pay(11), 1000 - fee);
        Due.is("till", x.count(8), fee);
        Due.is("kept", x.count(9), 0);
        Due.is("how", x.thing(0, 7), 3);
        Due.is("coins", x.thing(0, 11), 0);
        Due.is("day", x.thing(0, 12), 7);
        Due.is("steps", x.count(10), 24);
        Due.is("pay again", x.pay(11), -4);
    }

    private static void payWithLessThanTheFee() {
        LuggageCounter x = counter();
        x.put(2, 0, false, false, 0, 0);
        x.put(2, 0, false, false, 0, 0);
        x.clock(7 * 1440);
        x.sell(0, 20);
        x.sell(1, 115);
        Due.is("nothing is left", x.pay(11), 0);
        Due.is("all coins stay", x.count(8), 20);
        Due.is("just the fee", x.pay(148), 0);
        Due.is("till", x.count(8), 135);
        Due.is("kept", x.count(9), 0);
        Due.is("how", x.thing(0, 7), 3);
    }

    private static void payRefusesInItsOrder() {
        LuggageCounter x = counter();
        x.put(2, 0, false, false, 0, 0);
        x.put(2, 0, false, false, 0, 0);
        x.clock(7 * 1440);
        x.sell(0, 1000);
        x.hours(1, 2);
        x.tear(0);
        Due.is("wrong ticket", x.pay(12), -2);
        Due.is("below 0", x.pay(-89), -2);
        Due.is("min", x.pay(Integer.MIN_VALUE), -2);
        Due.is("max", x.pay(Integer.MAX_VALUE), -2);
        Due.is("no such thing", x.pay(Tickets.of(2)), -3);
        Due.is("not sold", x.pay(148), -4);
        Due.is("shut", x.pay(11), -6);
        Due.is("kept", x.count(9), 1000);
        x.clock(1);
        Due.is("open; a torn shelf doesn't matter", x.pay(11), 885);
    }

    private static void coinsFallAfterThirtyDays() {
        LuggageCounter x = counter();
        x.put(2, 0, false, false, 0, 0);
        x.put(2, 0, false, false, 0, 0);
        x.clock(7 * 1440 + 700);
        x.sell(0, 300);
        x.clock(1440);
        x.sell(1, 40);
        x.clock((7 + 31) * 1440 - 1 - x.count(5));
        Due.is("the last minute of day 37", x.thing(0, 7), 2);
        Due.is("kept", x.count(9), 340);
        x.clock(1);
        Due.is("day 38", x.thing(0, 7), 4);
        Due.is("coins", x.thing(0, 11), 0);
        Due.is("day of sale", x.thing(0, 12), 7);
        Due.is("the other is kept", x.thing(1, 7), 2);
        Due.is("kept", x.count(9), 40);
        Due.is("till", x.count(8), 300);
        Due.is("pay of the fallen", x.pay(11), -4);
        Due.is("pay of the other", x.pay(148), 0);
        x.clock(1440);
        Due.is("paid out stays paid out", x.thing(1, 7), 3);
        Due.is("till", x.count(8), 340);
    }

    private static void coinsFallOverALongStep() {
        LuggageCounter x = counter();
        x.put(2, 0, false, false, 0, 0);
        x.clock(7 * 1440);
        x.sell(0, 300);
        x.hours(1, 2);
        x.clock(60 * 1440);
        Due.is("fallen while shut", x.thing(0, 7), 4);
        Due.is("till", x.count(8), 300);
        Due.is("kept", x.count(9), 0);
    }
}
