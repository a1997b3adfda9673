/** The clock, told by days and minutes of a day. */
public final class Days {
    private Days() {
    }

    /** Puts the clock on to that minute of that day; it stays where it is if it is there. */
    public static void goTo(LuggageCounter x, int day, int minute) {
        int steps = day * 1440 + minute - x.count(5);
        if (steps != 0) {
            Due.is("clock(" + steps + ") to day " + day, x.clock(steps), day * 1440 + minute);
        }
    }
}
