/** Promise 3: hours. Terms: OPEN from minute OPENS to below SHUTS of each day (0 to 1,440, OPENS below SHUTS). */
public final class P03HoursTest {
    public static void main(String[] args) {
        fromOpensToBelowShuts();
        openOnEachDay();
        shortestHours();
        longestHours();
        notAsTold();
        laterHoursCount();
        Due.end();
    }

    private static void openAt(LuggageCounter x, int day, int minute, int due) {
        Days.goTo(x, day, minute);
        Due.is("open at " + minute + " of day " + day, x.count(7), due);
    }

    private static void isOpenFrom600To700(LuggageCounter x, int day) {
        openAt(x, day, 0, 0);
        openAt(x, day, 599, 0);
        openAt(x, day, 600, 1);
        openAt(x, day, 601, 1);
        openAt(x, day, 699, 1);
        openAt(x, day, 700, 0);
        openAt(x, day, 1439, 0);
    }

    private static void fromOpensToBelowShuts() {
        LuggageCounter x = new LuggageCounter();
        Due.is("hours(600, 700)", x.hours(600, 700), true);
        isOpenFrom600To700(x, 0);
    }

    private static void openOnEachDay() {
        LuggageCounter x = new LuggageCounter();
        x.hours(600, 700);
        isOpenFrom600To700(x, 1);
        isOpenFrom600To700(x, 2);
        isOpenFrom600To700(x, 68);
        openAt(x, 69, 599, 0);
        openAt(x, 69, 600, 1);
    }

    private static void shortestHours() {
        LuggageCounter x = new LuggageCounter();
        Due.is("hours(0, 1)", x.hours(0, 1), true);
        openAt(x, 0, 0, 1);
        openAt(x, 0, 1, 0);
        openAt(x, 0, 1439, 0);
        openAt(x, 1, 0, 1);
        Due.is("hours(1439, 1440)", x.hours(1439, 1440), true);
        openAt(x, 1, 0, 0);
        openAt(x, 1, 1438, 0);
        openAt(x, 1, 1439, 1);
        openAt(x, 2, 0, 0);
        Due.is("hours(719, 720)", x.hours(719, 720), true);
        openAt(x, 2, 718, 0);
        openAt(x, 2, 719, 1);
        openAt(x, 2, 720, 0);
    }

    private static void longestHours() {
        LuggageCounter x = new LuggageCounter();
        x.hours(5, 6);
        Due.is("hours(0, 1440)", x.hours(0, 1440), true);
        openAt(x, 0, 0, 1);
        openAt(x, 0, 1439, 1);
        openAt(x, 1, 0, 1);
    }

    private static LuggageCounter openFrom600To700() {
        LuggageCounter x = new LuggageCounter();
        x.hours(600, 700);
        return x;
    }

    private static void notAsTold() {
        int[][] wrong = {{-1, 650}, {-1, 0}, {-1, 1440}, {0, 0}, {650, 650}, {651, 650}, {700, 600}, {1440, 1440},
            {1440, 0}, {0, 1441}, {650, 1441}, {1440, 1441}, {0, -1}, {-2, -1}, {-1, 1441},
            {0, Integer.MAX_VALUE}, {Integer.MIN_VALUE, 1440}, {Integer.MIN_VALUE, Integer.MAX_VALUE},
            {Integer.MAX_VALUE, Integer.MIN_VALUE}};
        for (int[] w : wrong) {
            String call = "hours(" + w[0] + ", " + w[1] + ")";
            Unchanged.byRefused(call, Counters::lived, x -> x.hours(w[0], w[1]));
            Unchanged.byRefused("new " + call, LuggageCounter::new, x -> x.hours(w[0], w[1]));
            LuggageCounter x = openFrom600To700();
            Due.is(call, x.hours(w[0], w[1]), false);
            isOpenFrom600To700(x, 0);
        }
    }

    private static void laterHoursCount() {
        LuggageCounter x = new LuggageCounter();
        x.clock(650);
        x.hours(600, 700);
        Due.is("open", x.count(7), 1);
        x.hours(651, 700);
        Due.is("shut at once", x.count(7), 0);
        x.hours(650, 651);
        Due.is("open at once", x.count(7), 1);
        x.hours(0, 650);
        Due.is("shut again", x.count(7), 0);
    }
}
