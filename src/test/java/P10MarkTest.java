/** Promise 10: mark. Terms: of each mark what is told; MEANS the things that are IN with all told marks. */
public final class P10MarkTest {
    public static void main(String[] args) {
        marksAreTold();
        eachPlaceAtItsBounds();
        placesOutside();
        eachValueAtItsBounds();
        valuesOutside();
        takenBack();
        noSuchClaim();
        doneClaim();
        whileShut();
        Due.end();
    }

    /** Things 0 to 3 with marks 0x1234, 0x1235, 0x1244, 0x2234, and a claim. */
    private static LuggageCounter counter() {
        LuggageCounter x = new LuggageCounter();
        x.shelf(60, 2, false, 4);
        x.put(1, 0, false, false, 0x1234, 0);
        x.put(1, 0, false, false, 0x1235, 0);
        x.put(1, 0, false, false, 0x1244, 0);
        x.put(1, 0, false, false, 0x2234, 0);
        x.claim();
        return x;
    }

    private static void marksAreTold() {
        LuggageCounter x = counter();
        Due.is("mark 0 is 4", x.mark(0, 0, 4), 3);
        Due.is("mark 1 is 3", x.mark(0, 1, 3), 2);
        Due.is("mark 2 is 2", x.mark(0, 2, 2), 2);
        Due.is("mark 3 is 1", x.mark(0, 3, 1), 1);
        Due.is("mark 3 is 2", x.mark(0, 3, 2), 1);
        Due.is("mark 3 is 15", x.mark(0, 3, 15), 0);
        Due.is("told", x.claimOf(0, 0), 4);
    }

    /** Each thing has 15 in one place and 0 in the others. */
    private static LuggageCounter onePlaceEach() {
        LuggageCounter x = new LuggageCounter();
        x.shelf(60, 2, false, 4);
        int[] marks = {0x000F, 0x00F0, 0x0F00, 0xF000};
        for (int m : marks) {
            x.put(1, 0, false, false, m, 0);
        }
        x.claim();
        return x;
    }

    private static void eachPlaceAtItsBounds() {
        for (int k = 0; k < 4; k++) {
            LuggageCounter x = onePlaceEach();
            Due.is("mark " + k + " is 15", x.mark(0, k, 15), 1);
            for (int other = 0; other < 4; other++) {
                Due.is("told in place " + other, x.claimOf(0, 10 + other), other == k ? 15 : -1);
            }
            Due.is("mark " + k + " is 0", x.mark(0, k, 0), 3);
            Due.is("told", x.claimOf(0, 0), 1);
        }
    }

    private static void placesOutside() {
        for (int k : Bounds.outside(0, 3)) {
            Unchanged.by("mark(1, " + k + ", 1)", Counters::lived, x -> x.mark(1, k, 1), -1);
            Unchanged.by("mark(1, " + k + ", -1)", Counters::lived, x -> x.mark(1, k, -1), -1);
            Unchanged.by("mark(2, " + k + ", 15)", Counters::lived, x -> x.mark(2, k, 15), -1);
        }
        Due.is("mark(2, 0, 5)", Counters.lived().mark(2, 0, 5), 1);
        Due.is("mark(2, 3, 10)", Counters.lived().mark(2, 3, 10), 1);
    }

    private static void eachValueAtItsBounds() {
        LuggageCounter x = counter();
        for (int v = 0; v <= 15; v++) {
            Due.is("mark 0 is " + v, x.mark(0, 0, v), v == 4 ? 3 : v == 5 ? 1 : 0);
            Due.is("told", x.claimOf(0, 10), v);
        }
    }

    private static void valuesOutside() {
        int[] wrong = {-2, 16, Integer.MIN_VALUE, Integer.MAX_VALUE};
        for (int v : wrong) {
            for (int k = 0; k < 4; k++) {
                int place = k;
                Unchanged.by("mark(1, " + k + ", " + v + ")", Counters::lived, x -> x.mark(1, place, v), -1);
            }
        }
        Due.is("mark(1, 3, 0)", Counters.lived().mark(1, 3, 0), 0);
        Due.is("mark(3, 0, 15)", Counters.lived().mark(3, 0, 15), 0);
    }

    private static void takenBack() {
        LuggageCounter x = counter();
        x.mark(0, 0, 4);
        x.mark(0, 1, 3);
        Due.is("mark 0 is taken back", x.mark(0, 0, LuggageCounter.NONE), 3);
        Due.is("told", x.claimOf(0, 0), 1);
        Due.is("mark 1 is taken back", x.mark(0, 1, LuggageCounter.NONE), 4);
        Due.is("told", x.claimOf(0, 0), 0);
        Unchanged.by("taken back what isn't told", Counters::lived, y -> y.mark(2, 0, -1), 4);
        Unchanged.by("told again", Counters::lived, y -> y.mark(1, 0, 4), 1);
    }

    private static void noSuchClaim() {
        for (int claim : Bounds.outside(0, 3)) {
            Unchanged.by("mark(" + claim + ", 0, 1)", Counters::lived, x -> x.mark(claim, 0, 1), -1);
            Unchanged.by("mark(" + claim + ", 0, -1)", Counters::lived, x -> x.mark(claim, 0, -1), -1);
        }
        Unchanged.by("mark(40, 0, 1)", Counters::full, x -> x.mark(40, 0, 1), -1);
        Due.is("mark(39, 0, 1)", Counters.full().mark(39, 0, 1) >= 0, true);
    }

    private static void doneClaim() {
        for (int k = 0; k < 4; k++) {
            int place = k;
            Unchanged.by("mark(0, " + k + ", 9) of a done one", Counters::lived, x -> x.mark(0, place, 9), -1);
            Unchanged.by("mark(0, " + k + ", -1) of a done one", Counters::lived, x -> x.mark(0, place, -1), -1);
        }
    }

    private static void whileShut() {
        LuggageCounter x = Counters.livedShut();
        Due.is("mark(2, 0, 5)", x.mark(2, 0, 5), 1);
        Due.is("told", x.claimOf(2, 10), 5);
    }
}
