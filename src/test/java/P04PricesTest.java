/** Promise 4: prices. Terms: up to 12 rows, each from a DAY on till the next one's; 0 to 1,000 each. */
public final class P04PricesTest {
    public static void main(String[] args) {
        eachPriceAtItsBounds();
        eachPriceOutside();
        dayBelowZero();
        dayAboveThoseOfAllRows();
        twelveAtMost();
        wrongOnesDontFillTheRows();
        inForceFromItsDayTillTheNext();
        refusedRowIsNotInForce();
        Due.end();
    }

    /** A cold thing of size 1 which is never late. */
    private static LuggageCounter counter() {
        LuggageCounter x = new LuggageCounter();
        x.shelf(60, 2, true, 1);
        x.put(1, 0, true, false, 0, 100000);
        return x;
    }

    private static void eachPriceAtItsBounds() {
        for (int place = 0; place < 4; place++) {
            int[] p = {0, 0, 0, 0};
            LuggageCounter x = counter();
            Due.is("all 0", x.prices(0, p[0], p[1], p[2], p[3]), true);
            Due.is("fee of all 0", x.fee(11), 0);
            p[place] = 1000;
            LuggageCounter y = counter();
            Due.is("1000 at " + place, y.prices(0, p[0], p[1], p[2], p[3]), true);
            Due.is("fee of 1000 at " + place, y.fee(11), 1000);
        }
        LuggageCounter x = counter();
        Due.is("all 1000", x.prices(0, 1000, 1000, 1000, 1000), true);
        Due.is("fee of all 1000", x.fee(11), 4000);
    }

    private static void eachPriceOutside() {
        for (int w : Bounds.outside(0, 1000)) {
            Unchanged.byRefused("base " + w, Counters::lived, x -> x.prices(45, w, 1, 1, 1));
            Unchanged.byRefused("a day " + w, Counters::lived, x -> x.prices(45, 1, w, 1, 1));
            Unchanged.byRefused("a size " + w, Counters::lived, x -> x.prices(45, 1, 1, w, 1));
            Unchanged.byRefused("cold " + w, Counters::lived, x -> x.prices(45, 1, 1, 1, w));
        }
        Due.is("and none of them", Counters.lived().prices(45, 1, 1, 1, 1), true);
    }

    private static void dayBelowZero() {
        int[] wrong = {-1, -2, Integer.MIN_VALUE};
        for (int day : wrong) {
            Unchanged.byRefused("new prices of day " + day, P04PricesTest::counter, x -> x.prices(day, 1, 1, 1, 1));
            Unchanged.byRefused("prices of day " + day, Counters::lived, x -> x.prices(day, 1, 1, 1, 1));
        }
        Due.is("prices of day 0", counter().prices(0, 1, 1, 1, 1), true);
    }

    private static void dayAboveThoseOfAllRows() {
        int[] wrong = {0, 40, 41, 42, 43, 44};
        for (int day : wrong) {
            Unchanged.byRefused("prices of day " + day, Counters::lived, x -> x.prices(day, 1, 1, 1, 1));
        }
        Due.is("prices of day 45", Counters.lived().prices(45, 1, 1, 1, 1), true);
        LuggageCounter x = counter();
        Due.is("first row of day 69", x.prices(69, 1, 1, 1, 1), true);
        Due.is("then day 69", x.prices(69, 1, 1, 1, 1), false);
        Due.is("then day 68", x.prices(68, 1, 1, 1, 1), false);
        Due.is("then day 0", x.prices(0, 1, 1, 1, 1), false);
        Due.is("rows", x.count(4), 1);
    }

    private static void twelveAtMost() {
        LuggageCounter x = counter();
        for (int row = 0; row < 12; row++) {
            Due.is("row " + row, x.prices(5 * row, 1, 1, 1, 1), true);
            Due.is("rows", x.count(4), row + 1);
        }
        Due.is("row 12", x.prices(60, 1, 1, 1, 1), false);
        Due.is("rows", x.count(4), 12);
        Unchanged.byRefused("row 12 of a full one", Counters::full, y -> y.prices(12, 1, 1, 1, 1));
    }

    private static void wrongOnesDontFillTheRows() {
        LuggageCounter x = counter();
        for (int i = 0; i < 12; i++) {
            Due.is("wrong price", x.prices(20 + i, 1001, 0, 0, 0), false);
        }
        Due.is("rows", x.count(4), 0);
        for (int day = 0; day < 12; day++) {
            Due.is("row of day " + day, x.prices(day, 1, 1, 1, 1), true);
        }
    }

    private static void inForceFromItsDayTillTheNext() {
        LuggageCounter x = counter();
        x.prices(2, 0, 1, 0, 0);
        x.prices(4, 0, 100, 0, 0);
        int[] fees = {0, 0, 1, 2, 102, 202, 302};
        for (int day = 0; day < fees.length; day++) {
            Days.goTo(x, day, 0);
            Due.is("at the start of day " + day, x.fee(11), fees[day]);
            Days.goTo(x, day, 1439);
            Due.is("at the end of day " + day, x.fee(11), fees[day]);
        }
    }

    private static void refusedRowIsNotInForce() {
        LuggageCounter x = counter();
        x.prices(1, 0, 1, 0, 0);
        Due.is("wrong price", x.prices(2, 0, 5, 0, 1001), false);
        Due.is("day 1 again", x.prices(1, 0, 50, 0, 0), false);
        Due.is("day 0", x.prices(0, 0, 500, 0, 0), false);
        Days.goTo(x, 2, 0);
        Due.is("fee of days 1 and 2", x.fee(11), 2);
    }
}
