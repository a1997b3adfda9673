/** Promise 2: clock. Terms: THE CLOCK, minutes 0 to 100,000; DAY. */
public final class P02ClockTest {
    public static void main(String[] args) {
        goesOn();
        dayIsCut();
        belowOneIsRefused();
        lastMinuteAtOnce();
        lastMinuteStepByStep();
        farBeyondIsRefused();
        refusedLetsNoCoinsFall();
        Due.end();
    }

    private static void goesOn() {
        LuggageCounter x = new LuggageCounter();
        Due.is("clock(1)", x.clock(1), 1);
        Due.is("clock(1)", x.clock(1), 2);
        Due.is("clock(1438)", x.clock(1438), 1440);
        Due.is("count(5)", x.count(5), 1440);
    }

    private static void dayIsCut() {
        LuggageCounter x = new LuggageCounter();
        x.clock(1439);
        Due.is("day at 1439", x.count(6), 0);
        x.clock(1);
        Due.is("day at 1440", x.count(6), 1);
        x.clock(1439);
        Due.is("day at 2879", x.count(6), 1);
        x.clock(1);
        Due.is("day at 2880", x.count(6), 2);
        x.clock(99359 - 2880);
        Due.is("day at 99359", x.count(6), 68);
        x.clock(1);
        Due.is("day at 99360", x.count(6), 69);
        x.clock(640);
        Due.is("day at 100000", x.count(6), 69);
    }

    private static void belowOneIsRefused() {
        int[] wrong = {0, -1, -100000, Integer.MIN_VALUE};
        for (int n : wrong) {
            Unchanged.by("clock(" + n + ")", Counters::lived, x -> x.clock(n), -1);
        }
        Unchanged.by("new clock(0)", LuggageCounter::new, x -> x.clock(0), -1);
        Unchanged.by("new clock(-1)", LuggageCounter::new, x -> x.clock(-1), -1);
    }

    private static void lastMinuteAtOnce() {
        Unchanged.by("clock(100001) at 0", LuggageCounter::new, x -> x.clock(100001), -1);
        Due.is("clock(100000) at 0", new LuggageCounter().clock(100000), 100000);
        LuggageCounter x = new LuggageCounter();
        x.clock(1);
        Due.is("clock(100000) at 1", x.clock(100000), -1);
        Due.is("clock(99999) at 1", x.clock(99999), 100000);
    }

    private static LuggageCounter at99999() {
        LuggageCounter x = new LuggageCounter();
        x.clock(99999);
        return x;
    }

    private static LuggageCounter at100000() {
        LuggageCounter x = new LuggageCounter();
        x.clock(100000);
        return x;
    }

    private static void lastMinuteStepByStep() {
        Unchanged.by("clock(2) at 99999", P02ClockTest::at99999, x -> x.clock(2), -1);
        Due.is("clock(1) at 99999", at99999().clock(1), 100000);
        Unchanged.by("clock(1) at 100000", P02ClockTest::at100000, x -> x.clock(1), -1);
        Unchanged.by("clock(0) at 100000", P02ClockTest::at100000, x -> x.clock(0), -1);
    }

    /** The sum of these and the minute is above what an int holds. */
    private static void farBeyondIsRefused() {
        int[] wrong = {Integer.MAX_VALUE, Integer.MAX_VALUE - 1, Integer.MAX_VALUE - 99998};
        for (int n : wrong) {
            Unchanged.by("clock(" + n + ") at 99999", P02ClockTest::at99999, x -> x.clock(n), -1);
        }
        Unchanged.by("clock(max)", Counters::lived, x -> x.clock(Integer.MAX_VALUE), -1);
    }

    private static LuggageCounter aMinuteBeforeCoinsFall() {
        LuggageCounter x = Counters.lived();
        Days.goTo(x, 44, 1439);
        return x;
    }

    private static void refusedLetsNoCoinsFall() {
        Unchanged.by("clock(0)", P02ClockTest::aMinuteBeforeCoinsFall, x -> x.clock(0), -1);
        Unchanged.by("clock(100000)", P02ClockTest::aMinuteBeforeCoinsFall, x -> x.clock(100000), -1);
        LuggageCounter x = aMinuteBeforeCoinsFall();
        Due.is("sold", x.thing(2, 7), 2);
        x.clock(1);
        Due.is("fallen", x.thing(2, 7), 4);
    }
}
