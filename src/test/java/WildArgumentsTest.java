/** No call throws, whatever is given to it and however many calls there were. */
public final class WildArgumentsTest {
    private static final int[] WILD = {Integer.MIN_VALUE, Integer.MIN_VALUE + 1, -100001, -89, -2, -1, 0, 1, 2, 3, 4,
        11, 12, 13, 15, 16, 20, 21, 40, 60, 61, 97, 99, 100, 120, 148, 1000, 1001, 1440, 1441, 8866, 65535, 65536,
        100000, 100001, 2147483599, Integer.MAX_VALUE - 1, Integer.MAX_VALUE};

    public static void main(String[] args) {
        everyPair(new LuggageCounter());
        everyPair(filled());
        Due.end();
    }

    private static LuggageCounter filled() {
        LuggageCounter x = new LuggageCounter();
        x.prices(0, 1000, 1000, 1000, 1000);
        for (int i = 0; i < 16; i++) {
            x.shelf(60, 2, i % 2 == 1, 1 + 6 * i);
        }
        for (int i = 0; i < 120; i++) {
            x.put(1 + i % 8, i % 3, i % 2 == 1, i % 7 == 0, i * 546, i * 60);
        }
        for (int i = 0; i < 40; i++) {
            x.claim();
        }
        return x;
    }

    private static void everyPair(LuggageCounter x) {
        for (int a : WILD) {
            for (int b : WILD) {
                String call = "with " + a + " and " + b;
                try {
                    callAll(x, a, b);
                    Due.is(call, 0, 0);
                } catch (RuntimeException | Error e) {
                    e.printStackTrace(System.out);
                    Due.is(call + " threw", 1, 0);
                }
            }
        }
    }

    private static void callAll(LuggageCounter x, int a, int b) {
        x.hours(a, b);
        x.prices(a, b, a, b, a);
        x.prices(b, 1, 1, 1, a);
        x.shelf(a, b, a < b, b);
        x.put(a, b, true, false, a, b);
        x.put(1, 0, false, a < b, a, b);
        x.fee(a);
        x.give(a);
        x.claim();
        x.mark(a, b, b);
        x.mark(a, b, a);
        x.mark(3, a, b);
        x.means(a);
        x.ask(a);
        x.settle(a);
        x.misfit();
        x.tidy(a);
        x.least();
        x.sell(a, b);
        x.pay(a);
        x.tear(a);
        x.mend(b);
        x.shelfOf(a, b);
        x.thing(a, b);
        x.claimOf(a, b);
        x.count(a);
        x.clock(a / 1000);
    }
}
