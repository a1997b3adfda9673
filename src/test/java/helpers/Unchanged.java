import java.util.function.Predicate;
import java.util.function.Supplier;
import java.util.function.ToIntFunction;

/**
 * Calls that answer what is due and do nothing: all that can be seen is as it was, and what comes later is as
 * if the call had never been. No object gets more than the 512 calls for which the document answers, so a
 * counter is made anew for each part of what is looked at.
 */
public final class Unchanged {
    private static final int PART = 120;

    private Unchanged() {
    }

    public static void by(String call, Supplier<LuggageCounter> maker, ToIntFunction<LuggageCounter> made, int due) {
        looksTheSame(call, maker, made, due);
        livesOnTheSame(call, maker, made);
    }

    public static void byRefused(String call, Supplier<LuggageCounter> maker, Predicate<LuggageCounter> made) {
        by(call, maker, x -> made.test(x) ? 1 : 0, 0);
    }

    private static void looksTheSame(String call, Supplier<LuggageCounter> maker,
            ToIntFunction<LuggageCounter> made, int due) {
        LuggageCounter counted = maker.get();
        Sight sight = new Sight(counted.count(0), counted.count(1), counted.count(3));
        for (int from = 0; from < sight.size(); from += PART) {
            int to = Math.min(from + PART, sight.size());
            LuggageCounter x = maker.get();
            int[] before = new int[to - from];
            for (int i = from; i < to; i++) {
                before[i - from] = sight.answer(i, x);
            }
            Due.is(call, made.applyAsInt(x), due);
            for (int i = from; i < to; i++) {
                Due.is(sight.name(i) + " after " + call, sight.answer(i, x), before[i - from]);
            }
        }
    }

    private static void livesOnTheSame(String call, Supplier<LuggageCounter> maker,
            ToIntFunction<LuggageCounter> made) {
        LuggageCounter x = maker.get();
        LuggageCounter twin = maker.get();
        made.applyAsInt(x);
        later(call, x, twin, "put", y -> y.put(1, 0, false, false, 0, 100000));
        later(call, x, twin, "claim()", y -> y.claim());
        later(call, x, twin, "shelf", y -> y.shelf(1, 0, false, 1));
        // Not a part of a day or an hour, so that the hours are seen at many minutes.
        for (int i = 0; i < 20; i++) {
            later(call, x, twin, "clock(97)", y -> y.clock(97));
            later(call, x, twin, "count(7)", y -> y.count(7));
        }
        for (int i = 0; i < 14; i++) {
            aDayLater(call, x, twin);
        }
    }

    private static void aDayLater(String call, LuggageCounter x, LuggageCounter twin) {
        later(call, x, twin, "clock(1440)", y -> y.clock(1440));
        later(call, x, twin, "count(8)", y -> y.count(8));
        later(call, x, twin, "count(9)", y -> y.count(9));
        later(call, x, twin, "misfit()", y -> y.misfit());
        int[] things = {0, 2, 5, 7, 119};
        for (int thing : things) {
            later(call, x, twin, "fee of " + thing, y -> y.fee(Tickets.of(thing)));
        }
    }

    private static void later(String call, LuggageCounter x, LuggageCounter twin, String name,
            ToIntFunction<LuggageCounter> asked) {
        Due.is(name + ", later on, after " + call, asked.applyAsInt(x), asked.applyAsInt(twin));
    }
}
