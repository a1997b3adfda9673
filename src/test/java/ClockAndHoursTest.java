/** Promise 2: clock; promise 3: hours. */
public final class ClockAndHoursTest {
    public static void main(String[] args) {
        clockGoesOn();
        clockRefuses();
        hoursAreKept();
        hoursRefuse();
        hoursHoldOnEachDay();
        Due.end();
    }

    private static void clockGoesOn() {
        LuggageCounter x = new LuggageCounter();
        Due.is("clock(1)", x.clock(1), 1);
        Due.is("clock(1438)", x.clock(1438), 1439);
        Due.is("count(6) at 1439", x.count(6), 0);
        Due.is("clock(1)", x.clock(1), 1440);
        Due.is("count(6) at 1440", x.count(6), 1);
        Due.is("clock(98560)", x.clock(98560), 100000);
        Due.is("count(5)", x.count(5), 100000);
        Due.is("count(6)", x.count(6), 69);
    }

    private static void clockRefuses() {
        LuggageCounter x = new LuggageCounter();
        x.clock(99999);
        int[] wrong = {0, -1, 2, 100000, Integer.MAX_VALUE, Integer.MIN_VALUE};
        for (int n : wrong) {
            Due.is("clock(" + n + ") at 99999", x.clock(n), -1);
        }
        Due.is("minute after refusals", x.count(5), 99999);
        Due.is("clock(1) at 99999", x.clock(1), 100000);
        Due.is("clock(1) at 100000", x.clock(1), -1);
    }

    private static void hoursAreKept() {
        LuggageCounter x = new LuggageCounter();
        Due.is("hours(0, 1)", x.hours(0, 1), true);
        Due.is("open at 0", x.count(7), 1);
        x.clock(1);
        Due.is("shut at 1", x.count(7), 0);
        Due.is("hours(1439, 1440)", x.hours(1439, 1440), true);
        x.clock(1437);
        Due.is("shut at 1438", x.count(7), 0);
        x.clock(1);
        Due.is("open at 1439", x.count(7), 1);
        x.clock(1);
        Due.is("shut at 1440", x.count(7), 0);
        Due.is("hours(0, 1440)", x.hours(0, 1440), true);
        Due.is("open all day", x.count(7), 1);
    }

    private static void hoursRefuse() {
        LuggageCounter x = new LuggageCounter();
        x.hours(10, 20);
        x.clock(10);
        Due.is("hours(20, 20)", x.hours(20, 20), false);
        Due.is("hours(21, 20)", x.hours(21, 20), false);
        Due.is("hours(-1, 5)", x.hours(-1, 5), false);
        Due.is("hours(11, 1441)", x.hours(11, 1441), false);
        Due.is("hours(min, max)", x.hours(Integer.MIN_VALUE, Integer.MAX_VALUE), false);
        Due.is("hours(max, min)", x.hours(Integer.MAX_VALUE, Integer.MIN_VALUE), false);
        Due.is("still open from 10", x.count(7), 1);
        x.clock(10);
        Due.is("still shut from 20", x.count(7), 0);
    }

    private static void hoursHoldOnEachDay() {
        LuggageCounter x = new LuggageCounter();
        x.hours(600, 700);
        x.clock(5 * 1440 + 599);
        Due.is("shut at 599 of day 5", x.count(7), 0);
        x.clock(1);
        Due.is("open at 600 of day 5", x.count(7), 1);
        x.clock(99);
        Due.is("open at 699 of day 5", x.count(7), 1);
        x.clock(1);
        Due.is("shut at 700 of day 5", x.count(7), 0);
    }
}
