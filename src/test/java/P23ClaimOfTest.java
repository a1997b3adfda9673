/** Promise 23: claimOf. */
public final class P23ClaimOfTest {
    public static void main(String[] args) {
        allThatIsTold();
        marksAtTheirBounds();
        gotThingZero();
        noSuchClaim();
        noSuchWhat();
        Due.end();
    }

    /** How many are told, done, got, then the four marks. */
    private static void tells(LuggageCounter x, int claim, int... due) {
        int[] whats = {0, 1, 2, 10, 11, 12, 13};
        for (int i = 0; i < whats.length; i++) {
            Due.is("claimOf(" + claim + ", " + whats[i] + ")", x.claimOf(claim, whats[i]), due[i]);
        }
    }

    private static void allThatIsTold() {
        LuggageCounter x = Counters.lived();
        tells(x, 0, 4, 1, 8, 1, 2, 3, 4);
        tells(x, 1, 3, 0, -1, 4, 3, 2, -1);
        tells(x, 2, 0, 0, -1, -1, -1, -1, -1);
        tells(x, 3, 1, 0, -1, 15, -1, -1, -1);
    }

    private static void marksAtTheirBounds() {
        LuggageCounter x = Counters.lived();
        x.mark(2, 1, 0);
        x.mark(2, 3, 15);
        tells(x, 2, 2, 0, -1, -1, 0, -1, 15);
        Counters.tell(x, 2, 0, 0, 0, 0);
        tells(x, 2, 4, 0, -1, 0, 0, 0, 0);
        Counters.tell(x, 2, 15, 15, 15, 15);
        tells(x, 2, 4, 0, -1, 15, 15, 15, 15);
        Counters.tell(x, 2, -1, -1, -1, -1);
        tells(x, 2, 0, 0, -1, -1, -1, -1, -1);
    }

    private static void gotThingZero() {
        LuggageCounter x = new LuggageCounter();
        x.shelf(1, 0, false, 1);
        x.put(1, 0, false, false, 0, 0);
        x.claim();
        Counters.tell(x, 0, 0, 0, 0);
        tells(x, 0, 3, 0, -1, 0, 0, 0, -1);
        Due.is("settle", x.settle(0), 500);
        tells(x, 0, 3, 1, 0, 0, 0, 0, -1);
    }

    private static void noSuchClaim() {
        for (int claim : Bounds.outside(0, 3)) {
            int[] whats = {0, 1, 2, 10, 11, 12, 13};
            for (int what : whats) {
                Due.is("claimOf(" + claim + ", " + what + ")", Counters.lived().claimOf(claim, what), -1);
            }
            Unchanged.by("claimOf(" + claim + ", 1)", Counters::lived, x -> x.claimOf(claim, 1), -1);
        }
        Due.is("claimOf(39, 1) of forty", Counters.full().claimOf(39, 1), 0);
        Due.is("claimOf(40, 1) of forty", Counters.full().claimOf(40, 1), -1);
    }

    private static void noSuchWhat() {
        int[] wrong = {-1, 3, 4, 9, 14, 15, -10, Integer.MIN_VALUE, Integer.MIN_VALUE + 9, Integer.MAX_VALUE};
        for (int what : wrong) {
            for (int claim = 0; claim < 4; claim++) {
                Due.is("claimOf(" + claim + ", " + what + ")", Counters.lived().claimOf(claim, what), -1);
            }
        }
        Unchanged.by("claimOf(0, 14)", Counters::lived, x -> x.claimOf(0, 14), -1);
        Unchanged.by("claimOf(0, 13)", Counters::lived, x -> x.claimOf(0, 13), 4);
    }
}
