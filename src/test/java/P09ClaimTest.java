/** Promise 9: claim. Terms: CLAIMS, up to 40; nothing told and open at first. */
public final class P09ClaimTest {
    public static void main(String[] args) {
        openWithNothingTold();
        fortyAtMost();
        doneOnesKeepTheirPlace();
        shutOrOpen();
        Due.end();
    }

    private static void openWithNothingTold() {
        LuggageCounter x = Counters.lived();
        Due.is("claim()", x.claim(), 4);
        Due.is("count(3)", x.count(3), 5);
        Due.is("told", x.claimOf(4, 0), 0);
        Due.is("done", x.claimOf(4, 1), 0);
        Due.is("got", x.claimOf(4, 2), -1);
        for (int k = 0; k < 4; k++) {
            Due.is("mark " + k, x.claimOf(4, 10 + k), -1);
        }
        Due.is("means all that are in", x.means(4), 4);
    }

    private static void fortyAtMost() {
        LuggageCounter x = new LuggageCounter();
        for (int i = 0; i < 40; i++) {
            Due.is("claim " + i, x.claim(), i);
            Due.is("claims", x.count(3), i + 1);
        }
        Due.is("claim 40", x.claim(), -1);
        Due.is("claims", x.count(3), 40);
        Unchanged.by("claim 40 of a full one", Counters::full, y -> y.claim(), -1);
    }

    private static LuggageCounter fullWithOneDone() {
        LuggageCounter x = Counters.full();
        int marks = x.thing(119, 4);
        Counters.tell(x, 0, marks & 15, marks >> 4 & 15, marks >> 8 & 15, marks >> 12);
        x.settle(0);
        return x;
    }

    private static void doneOnesKeepTheirPlace() {
        Due.is("one is done", fullWithOneDone().claimOf(0, 1), 1);
        Unchanged.by("claim 40 with one done", P09ClaimTest::fullWithOneDone, x -> x.claim(), -1);
    }

    private static void shutOrOpen() {
        LuggageCounter x = Counters.livedShut();
        Due.is("claim() while shut", x.claim(), 4);
    }
}
