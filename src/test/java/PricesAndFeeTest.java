/** Promise 4: prices; promise 7: fee. */
public final class PricesAndFeeTest {
    public static void main(String[] args) {
        rowsRiseByDays();
        rowsRefuse();
        twelveRowsAtMost();
        feeOfTheFirstDay();
        feeByDays();
        dueDayItselfIsSingle();
        cameBehindItsDue();
        daysWithoutRow();
        laterRowsCount();
        feeStandsStillWhenSold();
        ticketsThatAreWrong();
        thingsThatOweNothing();
        Due.end();
    }

    private static void rowsRiseByDays() {
        LuggageCounter x = new LuggageCounter();
        Due.is("prices of day 3", x.prices(3, 1, 1, 1, 1), true);
        Due.is("prices of day 3 again", x.prices(3, 1, 1, 1, 1), false);
        Due.is("prices of day 2", x.prices(2, 1, 1, 1, 1), false);
        Due.is("prices of day 4", x.prices(4, 0, 1000, 0, 1000), true);
        Due.is("rows", x.count(4), 2);
    }

    private static void rowsRefuse() {
        LuggageCounter x = new LuggageCounter();
        Due.is("day -1", x.prices(-1, 1, 1, 1, 1), false);
        Due.is("day min", x.prices(Integer.MIN_VALUE, 1, 1, 1, 1), false);
        int[] wrong = {-1, 1001, Integer.MAX_VALUE, Integer.MIN_VALUE};
        for (int p : wrong) {
            Due.is("base " + p, x.prices(0, p, 1, 1, 1), false);
            Due.is("a day " + p, x.prices(0, 1, p, 1, 1), false);
            Due.is("a size " + p, x.prices(0, 1, 1, p, 1), false);
            Due.is("cold " + p, x.prices(0, 1, 1, 1, p), false);
        }
        Due.is("rows", x.count(4), 0);
        Due.is("all 0", x.prices(0, 0, 0, 0, 0), true);
        Due.is("all 1000", x.prices(1, 1000, 1000, 1000, 1000), true);
    }

    private static void twelveRowsAtMost() {
        LuggageCounter x = new LuggageCounter();
        for (int day = 0; day < 12; day++) {
            Due.is("row " + day, x.prices(day, 1, 1, 1, 1), true);
        }
        Due.is("row 12", x.prices(12, 1, 1, 1, 1), false);
        Due.is("rows", x.count(4), 12);
    }

    private static LuggageCounter counter() {
        LuggageCounter x = new LuggageCounter();
        x.shelf(60, 2, false, 1);
        x.shelf(60, 2, true, 1);
        return x;
    }

    private static void feeOfTheFirstDay() {
        LuggageCounter x = counter();
        x.prices(0, 100, 10, 3, 7);
        x.put(4, 0, false, false, 0, 1440);
        x.put(5, 0, true, false, 0, 1440);
        Due.is("warm", x.fee(Tickets.of(0)), 100 + 10 + 12);
        Due.is("cold", x.fee(Tickets.of(1)), 100 + 10 + 15 + 7);
        Due.is("till", x.count(8), 0);
    }

    private static void feeByDays() {
        LuggageCounter x = counter();
        x.prices(0, 100, 10, 3, 7);
        x.prices(2, 50, 20, 5, 9);
        x.prices(4, 1, 30, 0, 1);
        x.clock(1440);
        x.put(2, 0, true, false, 0, 3 * 1440);
        x.clock(4 * 1440 + 1439);
        int first = 10 + 6 + 7;
        int second = 20 + 10 + 9;
        int third = 30 + 1;
        Due.is("days 1 to 5, due on 3", x.fee(Tickets.of(0)), 100 + first + 2 * second + 2 * 2 * third);
    }

    private static void dueDayItselfIsSingle() {
        LuggageCounter x = counter();
        x.prices(0, 0, 1, 0, 0);
        x.put(1, 0, false, false, 0, 1440);
        x.clock(2879);
        Due.is("at the end of the due day", x.fee(Tickets.of(0)), 2);
        x.clock(1);
        Due.is("a day behind", x.fee(Tickets.of(0)), 4);
    }

    private static void cameBehindItsDue() {
        LuggageCounter x = counter();
        x.prices(0, 5, 1, 0, 0);
        x.clock(3 * 1440);
        x.put(1, 0, false, false, 0, 0);
        Due.is("twice from its first day, the base once", x.fee(Tickets.of(0)), 5 + 2);
    }

    private static void daysWithoutRow() {
        LuggageCounter x = counter();
        x.put(1, 0, false, false, 0, 100000);
        Due.is("no row at all", x.fee(Tickets.of(0)), 0);
        x.prices(2, 100, 10, 0, 0);
        Due.is("row not in force yet", x.fee(Tickets.of(0)), 0);
        x.clock(3 * 1440);
        Due.is("no base on the day it came", x.fee(Tickets.of(0)), 20);
    }

    private static void laterRowsCount() {
        LuggageCounter x = counter();
        x.prices(0, 9, 1, 0, 0);
        x.put(1, 0, false, false, 0, 100000);
        x.clock(2 * 1440);
        Due.is("one row", x.fee(Tickets.of(0)), 9 + 3);
        x.prices(1, 50, 100, 0, 0);
        Due.is("a row from a day that is past", x.fee(Tickets.of(0)), 9 + 1 + 200);
    }

    private static void feeStandsStillWhenSold() {
        LuggageCounter x = counter();
        x.prices(0, 10, 1, 0, 0);
        x.put(1, 0, false, false, 0, 0);
        x.clock(7 * 1440);
        x.sell(0, 500);
        Due.is("on the day of the sale", x.fee(Tickets.of(0)), 10 + 1 + 14);
        x.clock(5 * 1440);
        Due.is("later", x.fee(Tickets.of(0)), 10 + 1 + 14);
    }

    private static void ticketsThatAreWrong() {
        LuggageCounter x = counter();
        x.put(1, 0, false, false, 0, 0);
        for (int check = 0; check < 100; check++) {
            Due.is("fee(" + check + ")", x.fee(check), check == 11 ? 0 : -2);
        }
        Due.is("fee of thing 1's ticket", x.fee(Tickets.of(1)), -3);
        Due.is("fee of thing 119's ticket", x.fee(Tickets.of(119)), -3);
        Due.is("fee(-1)", x.fee(-1), -2);
        Due.is("fee(-89)", x.fee(-89), -2);
        Due.is("fee(min)", x.fee(Integer.MIN_VALUE), -2);
        Due.is("fee(max)", x.fee(Integer.MAX_VALUE), -2);
        Due.is("fee with the CHECK of thing 97 at thing 0", x.fee(Tickets.of(97) - 9700), 0);
    }

    private static void thingsThatOweNothing() {
        LuggageCounter x = counter();
        x.put(1, 0, false, false, 0, 0);
        x.put(1, 0, false, true, 0, 0);
        x.put(1, 0, false, false, 0, 0);
        x.put(1, 0, false, false, 0, 0);
        x.give(Tickets.of(0));
        x.clock(7 * 1440);
        x.sell(1, 9);
        x.sell(2, 9);
        x.sell(3, 9);
        x.pay(Tickets.of(2));
        Due.is("given", x.fee(Tickets.of(0)), -4);
        Due.is("handed over", x.fee(Tickets.of(1)), -4);
        Due.is("paid out", x.fee(Tickets.of(2)), -4);
        Due.is("sold", x.fee(Tickets.of(3)), 0);
        x.clock(31 * 1440);
        Due.is("fallen", x.fee(Tickets.of(3)), -4);
    }
}
