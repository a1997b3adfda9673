/** Promise 7: fee. Terms: A TICKET; FEE of a thing now. */
public final class P07FeeTest {
    public static void main(String[] args) {
        eachOfThePrices();
        bothDaysCount();
        baseOfTheDayItCame();
        dueDayItselfIsSingle();
        cameBehindItsDue();
        daysWithoutRow();
        laterRowsCount();
        greatestFee();
        feeStandsStillWhenSold();
        numbersBelowZero();
        checksThatAreWrong();
        checkOfEachThing();
        noSuchThing();
        thingsThatAreGone();
        Due.end();
    }

    private static LuggageCounter counter() {
        LuggageCounter x = new LuggageCounter();
        x.shelf(60, 2, false, 1);
        x.shelf(60, 2, true, 1);
        return x;
    }

    private static void eachOfThePrices() {
        LuggageCounter x = counter();
        x.prices(0, 100, 10, 3, 7);
        x.put(1, 0, false, false, 0, 1440);
        x.put(20, 0, false, false, 0, 1440);
        x.put(5, 0, true, false, 0, 1440);
        Due.is("size 1", x.fee(Tickets.of(0)), 100 + 10 + 3);
        Due.is("size 20", x.fee(Tickets.of(1)), 100 + 10 + 60);
        Due.is("cold", x.fee(Tickets.of(2)), 100 + 10 + 15 + 7);
        Due.is("till", x.count(8), 0);
        Unchanged.by("fee", Counters::lived, y -> y.fee(Tickets.of(5)), 100 + 10 + 9);
    }

    private static void bothDaysCount() {
        LuggageCounter x = counter();
        x.prices(0, 100, 1, 0, 0);
        Days.goTo(x, 0, 1439);
        x.put(1, 0, false, false, 0, 100000);
        Due.is("the minute it came", x.fee(11), 101);
        Days.goTo(x, 1, 0);
        Due.is("a minute later, on the next day", x.fee(11), 102);
        Days.goTo(x, 1, 1439);
        Due.is("at the end of that day", x.fee(11), 102);
        Days.goTo(x, 2, 0);
        Due.is("on day 2", x.fee(11), 103);
    }

    private static void baseOfTheDayItCame() {
        LuggageCounter x = counter();
        x.prices(0, 100, 10, 3, 7);
        x.prices(2, 50, 20, 5, 9);
        x.prices(4, 1, 30, 0, 1);
        Days.goTo(x, 1, 1439);
        x.put(2, 0, true, false, 0, 3 * 1440);
        Days.goTo(x, 2, 0);
        x.put(2, 0, true, false, 0, 3 * 1440);
        Days.goTo(x, 5, 1439);
        int first = 10 + 6 + 7;
        int second = 20 + 10 + 9;
        int third = 30 + 1;
        Due.is("days 1 to 5, due on 3", x.fee(11), 100 + first + 2 * second + 2 * 2 * third);
        Due.is("days 2 to 5, due on 3", x.fee(148), 50 + 2 * second + 2 * 2 * third);
    }

    private static void dueDayItselfIsSingle() {
        LuggageCounter x = counter();
        x.prices(0, 1000, 100, 10, 1);
        x.put(1, 0, true, false, 0, 1440);
        x.put(1, 0, true, false, 0, 1439);
        Days.goTo(x, 1, 1439);
        Due.is("at the end of the due day", x.fee(11), 1000 + 2 * 111);
        Due.is("at the end of the day behind", x.fee(148), 1000 + 3 * 111);
        Days.goTo(x, 2, 0);
        Due.is("a day behind: all twice but the base", x.fee(11), 1000 + 4 * 111);
        Due.is("two days behind", x.fee(148), 1000 + 5 * 111);
    }

    private static void cameBehindItsDue() {
        LuggageCounter x = counter();
        x.prices(0, 5, 1, 0, 0);
        Days.goTo(x, 3, 0);
        x.put(1, 0, false, false, 0, 3 * 1440 - 1);
        x.put(1, 0, false, false, 0, 3 * 1440);
        Due.is("twice from its first day, the base once", x.fee(11), 5 + 2);
        Due.is("due on its first day", x.fee(148), 5 + 1);
    }

    private static void daysWithoutRow() {
        LuggageCounter x = counter();
        x.put(1, 0, false, false, 0, 100000);
        Due.is("no row at all", x.fee(11), 0);
        x.prices(2, 100, 10, 0, 0);
        Due.is("row not in force yet", x.fee(11), 0);
        Days.goTo(x, 1, 1439);
        Due.is("the last minute before", x.fee(11), 0);
        Days.goTo(x, 2, 0);
        Due.is("no base, as none was in force when it came", x.fee(11), 10);
        Days.goTo(x, 3, 0);
        Due.is("a day more", x.fee(11), 20);
    }

    private static void laterRowsCount() {
        LuggageCounter x = counter();
        x.prices(0, 9, 1, 0, 0);
        x.put(1, 0, false, false, 0, 100000);
        Days.goTo(x, 2, 0);
        Due.is("one row", x.fee(11), 9 + 3);
        x.prices(1, 50, 100, 0, 0);
        Due.is("a row from a day that is past", x.fee(11), 9 + 1 + 200);
    }

    private static void greatestFee() {
        LuggageCounter x = counter();
        x.prices(0, 1000, 1000, 1000, 1000);
        x.put(20, 2, true, false, 0, 0);
        x.clock(100000);
        Due.is("70 days, 69 of them twice", x.fee(11), 1000 + 22000 + 69 * 44000);
        Due.is("give", x.give(11), 3059000);
        Due.is("till", x.count(8), 3059000);
    }

    private static void feeStandsStillWhenSold() {
        LuggageCounter x = counter();
        x.prices(0, 10, 1, 0, 0);
        x.put(1, 0, false, false, 0, 0);
        Days.goTo(x, 7, 0);
        x.sell(0, 500);
        Due.is("on the day of the sale", x.fee(11), 10 + 1 + 14);
        Days.goTo(x, 8, 0);
        Due.is("a day later", x.fee(11), 10 + 1 + 14);
        Days.goTo(x, 37, 1439);
        Due.is("30 days later", x.fee(11), 10 + 1 + 14);
    }

    private static void numbersBelowZero() {
        int[] wrong = {-1, -11, -29, -89, -100, -126, -148, Integer.MIN_VALUE};
        for (int ticket : wrong) {
            Unchanged.by("fee(" + ticket + ")", Counters::lived, x -> x.fee(ticket), -2);
        }
    }

    private static void checksThatAreWrong() {
        LuggageCounter x = counter();
        x.put(1, 0, false, false, 0, 0);
        for (int check = 0; check < 100; check++) {
            Due.is("fee(" + check + ")", x.fee(check), check == 11 ? 0 : -2);
        }
        for (int check = 100; check < 200; check++) {
            Due.is("fee(" + check + ")", x.fee(check), check == 148 ? -3 : -2);
        }
        Due.is("fee(max)", x.fee(Integer.MAX_VALUE), -2);
        int[] wrong = {0, 10, 12, 108, 110, 511, Tickets.of(5) - 1, Tickets.of(5) + 1, Tickets.of(5) + 97,
            Tickets.of(10) + 1, Integer.MAX_VALUE};
        for (int ticket : wrong) {
            Unchanged.by("fee(" + ticket + ")", Counters::lived, y -> y.fee(ticket), -2);
        }
    }

    /** 37 times the number and 11, by 97, comes round many times over the 120. */
    private static void checkOfEachThing() {
        LuggageCounter x = Counters.full();
        int check = 11;
        for (int number = 0; number < 120; number++) {
            Due.is("fee of thing " + number, x.fee(100 * number + check) > 0, true);
            Due.is("a check below", x.fee(100 * number + (check + 96) % 97), -2);
            check = check + 37 >= 97 ? check + 37 - 97 : check + 37;
        }
        Due.is("the last one's ticket", Tickets.of(119), 11949);
        Due.is("a check of 96", Tickets.of(39), 3996);
        Due.is("a check of 0", Tickets.of(60), 6000);
    }

    private static void noSuchThing() {
        Unchanged.by("fee of thing 10", Counters::lived, x -> x.fee(Tickets.of(10)), -3);
        Unchanged.by("fee of thing 119", Counters::lived, x -> x.fee(Tickets.of(119)), -3);
        LuggageCounter x = counter();
        Due.is("before it comes", x.fee(11), -3);
        x.put(1, 0, false, false, 0, 0);
        Due.is("when it has come", x.fee(11), 0);
        Due.is("the next one", x.fee(148), -3);
    }

    private static void thingsThatAreGone() {
        Unchanged.by("given", Counters::lived, x -> x.fee(Tickets.of(0)), -4);
        Unchanged.by("fallen", Counters::lived, x -> x.fee(Tickets.of(1)), -4);
        Unchanged.by("handed over", Counters::lived, x -> x.fee(Tickets.of(3)), -4);
        Unchanged.by("paid out", Counters::lived, x -> x.fee(Tickets.of(4)), -4);
        Unchanged.by("given to a claim", Counters::lived, x -> x.fee(Tickets.of(8)), -4);
        Unchanged.by("sold", Counters::lived, x -> x.fee(Tickets.of(2)), 100 + 16 + 14 * 32);
        Unchanged.by("on a torn shelf", Counters::lived, x -> x.fee(Tickets.of(6)), 100 + 10 + 12);
        Unchanged.by("in, while shut", Counters::livedShut, x -> x.fee(Tickets.of(7)), 100 + 10 + 15 + 7);
    }
}
