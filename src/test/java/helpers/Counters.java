/** Counters to begin a test with. */
public final class Counters {
    private Counters() {
    }

    /**
     * At minute 600 of day 40, open from 600 to 1,200. Things: 0 given, 1 fallen, 2 sold, 3 handed over, 4 paid
     * out, 8 given to claim 0; in are 5 (on shelf 0), 6 (on shelf 2, which is torn), 7 (on shelf 1) and 9 (on
     * shelf 3, 8 steps from shelf 4). Claims: 0 done, 1 means thing 5 alone, 2 with nothing told, 3 means none.
     */
    public static LuggageCounter lived() {
        LuggageCounter x = new LuggageCounter();
        x.prices(0, 100, 10, 3, 7);
        x.prices(41, 50, 20, 5, 9);
        x.prices(44, 1, 2, 3, 4);
        x.shelf(20, 2, false, 5);
        x.shelf(20, 1, true, 9);
        x.shelf(20, 2, false, 30);
        x.shelf(6, 0, false, 60);
        firstFiveThings(x);
        x.clock(40 * 1440 + 600 - x.count(5));
        int now = x.count(5);
        x.put(3, 0, false, false, 0x1234, now + 4 * 60);
        x.put(4, 2, false, false, 0xABCD, now + 29 * 60);
        x.put(5, 1, true, true, 0x5678, now + 8 * 60);
        x.put(6, 0, false, false, 0x4321, now + 59 * 60);
        fourClaims(x);
        x.put(2, 0, false, false, 0x1235, now + 59 * 60);
        x.shelf(10, 2, false, 52);
        x.tear(2);
        x.hours(600, 1200);
        return x;
    }

    private static void firstFiveThings(LuggageCounter x) {
        for (int i = 0; i < 5; i++) {
            x.put(2, 0, false, i == 3, 0x1111 * i, 0);
        }
        x.give(Tickets.of(0));
        x.clock(7 * 1440);
        x.sell(1, 900);
        x.sell(3, 900);
        x.sell(4, 900);
        x.pay(Tickets.of(4));
        x.clock(7 * 1440);
        x.sell(2, 900);
    }

    private static void fourClaims(LuggageCounter x) {
        for (int i = 0; i < 4; i++) {
            x.claim();
        }
        tell(x, 0, 1, 2, 3, 4);
        x.settle(0);
        tell(x, 1, 4, 3, 2);
        tell(x, 3, 15);
    }

    /** As lived(), but at minute 1,200 of the day: shut. Thing 9 would stand better on shelf 4 now. */
    public static LuggageCounter livedShut() {
        LuggageCounter x = lived();
        x.clock(600);
        return x;
    }

    /** 12 rows, 16 shelves, 120 things, 40 claims: none can be added. */
    public static LuggageCounter full() {
        LuggageCounter x = new LuggageCounter();
        for (int day = 0; day < 12; day++) {
            x.prices(day, 10 + day, 1 + day, 2, 3);
        }
        for (int i = 0; i < 16; i++) {
            x.shelf(60, 2, i % 2 == 1, 1 + 6 * i);
        }
        for (int i = 0; i < 120; i++) {
            x.put(1 + i % 8, i % 3, i % 2 == 1, i % 7 == 0, i * 546, i * 60);
        }
        for (int i = 0; i < 40; i++) {
            x.claim();
        }
        return x;
    }

    /** Tells a claim's marks, mark 0 first. */
    public static void tell(LuggageCounter x, int claim, int... marks) {
        for (int k = 0; k < marks.length; k++) {
            x.mark(claim, k, marks[k]);
        }
    }
}
