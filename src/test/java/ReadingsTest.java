/** Choices of NOTES.md where the document's words leave one, and that no test of a promise makes. */
public final class ReadingsTest {
    private static final int GREATEST_NUMBER = Integer.MAX_VALUE / 100;

    public static void main(String[] args) {
        pricesOfDaysThatNeverCome();
        ticketsAboveAllThings();
        sealedThingsWithCoinsOutside();
        thingsThatCameLongBehindTheirDue();
        Due.end();
    }

    /** Promise 4 bounds a day below alone. */
    private static void pricesOfDaysThatNeverCome() {
        LuggageCounter x = new LuggageCounter();
        int[] days = {69, 70, 1441, 100000, 100001, Integer.MAX_VALUE};
        for (int i = 0; i < days.length; i++) {
            Due.is("prices of day " + days[i], x.prices(days[i], 1, 1, 1, 1), true);
            Due.is("rows", x.count(4), i + 1);
        }
        Due.is("none above the greatest", x.prices(Integer.MAX_VALUE, 1, 1, 1, 1), false);
        Due.is("none from below it", x.prices(Integer.MIN_VALUE, 1, 1, 1, 1), false);
    }

    /** Promise 7: a number of a ticket's form with its right CHECK is no wrong ticket, only no thing's. */
    private static void ticketsAboveAllThings() {
        int[] numbers = {120, 121, 1000, GREATEST_NUMBER - 1};
        for (int number : numbers) {
            int ticket = Tickets.of(number);
            Unchanged.by("fee(" + ticket + ")", Counters::full, x -> x.fee(ticket), -3);
            Unchanged.by("give(" + ticket + ")", Counters::full, x -> x.give(ticket), -3);
            Unchanged.by("pay(" + ticket + ")", Counters::full, x -> x.pay(ticket), -3);
            Unchanged.by("fee(" + (ticket + 1) + ")", Counters::full, x -> x.fee(ticket + 1), -2);
        }
    }

    private static LuggageCounter sealedOnDay7() {
        LuggageCounter x = new LuggageCounter();
        x.shelf(10, 0, false, 1);
        x.put(1, 0, false, true, 0, 0);
        x.clock(7 * 1440);
        return x;
    }

    /** Promise 17: coins count for nothing of a sealed thing, but -2 is told of coins without a but. */
    private static void sealedThingsWithCoinsOutside() {
        for (int coins : Bounds.outside(0, 100000)) {
            Unchanged.by("sell(0, " + coins + ")", ReadingsTest::sealedOnDay7, x -> x.sell(0, coins), -2);
        }
        Due.is("sell(0, 0)", sealedOnDay7().sell(0, 0), 1);
        Due.is("sell(0, 100000)", sealedOnDay7().sell(0, 100000), 1);
    }

    /** SALE: 7 DAYS behind the DAY of DUE, whenever the thing came. */
    private static void thingsThatCameLongBehindTheirDue() {
        LuggageCounter x = new LuggageCounter();
        x.shelf(10, 0, false, 1);
        Days.goTo(x, 20, 0);
        x.put(1, 0, false, false, 0, 14 * 1440 - 1);
        x.put(1, 0, false, false, 0, 14 * 1440);
        Due.is("due on day 13", x.sell(0, 5), 0);
        Due.is("due on day 14", x.sell(1, 5), -4);
        Days.goTo(x, 21, 0);
        Due.is("a day later", x.sell(1, 5), 0);
    }
}
