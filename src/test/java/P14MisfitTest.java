/** Promise 14: misfit. Terms: WANTED, MISFIT. */
public final class P14MisfitTest {
    public static void main(String[] args) {
        noneIsIn();
        sumOfAllThatAreIn();
        greaterLessTheLesser();
        greatestSum();
        changesNothing();
        Due.end();
    }

    private static void noneIsIn() {
        LuggageCounter x = new LuggageCounter();
        Due.is("no things", x.misfit(), 0);
        x.shelf(60, 2, false, 50);
        Due.is("a shelf without things", x.misfit(), 0);
        x.put(1, 0, false, false, 0, 0);
        Due.is("one thing", x.misfit(), 49);
        x.give(11);
        Due.is("which is given", x.misfit(), 0);
    }

    private static void sumOfAllThatAreIn() {
        LuggageCounter x = new LuggageCounter();
        x.shelf(60, 2, false, 10);
        x.put(1, 0, false, false, 0, 0);
        x.put(1, 0, false, false, 0, 12 * 60);
        x.put(1, 0, false, false, 0, 20 * 60);
        Due.is("misfit", x.misfit(), 9 + 3 + 11);
        x.give(Tickets.of(2));
        Due.is("less the given", x.misfit(), 9 + 3);
        x.tear(0);
        Due.is("torn ones count", x.misfit(), 9 + 3);
        x.clock(60);
        Due.is("an hour later", x.misfit(), 9 + 2);
        x.mend(0);
        Days.goTo(x, 7, 0);
        x.sell(0, 5);
        Due.is("less the sold", x.misfit(), 9);
    }

    private static void greaterLessTheLesser() {
        int[][] rows = {{1, 0, 0}, {1, 60, 1}, {2, 0, 1}, {2, 60, 0}, {99, 98 * 60, 0}, {99, 97 * 60, 1},
            {98, 98 * 60, 1}, {99, 0, 98}, {1, 98 * 60, 98}, {1, 100000, 98}};
        for (int[] row : rows) {
            LuggageCounter x = new LuggageCounter();
            x.shelf(60, 2, false, row[0]);
            x.put(1, 0, false, false, 0, row[1]);
            Due.is("distance " + row[0] + ", due " + row[1], x.misfit(), row[2]);
            Due.is("thing's misfit", x.thing(0, 10), row[2]);
        }
    }

    private static void greatestSum() {
        LuggageCounter x = new LuggageCounter();
        x.shelf(60, 2, false, 99);
        x.shelf(60, 2, false, 99);
        for (int i = 0; i < 120; i++) {
            x.put(1, 0, false, false, 0, 0);
        }
        Due.is("120 of 98", x.misfit(), 120 * 98);
    }

    private static void changesNothing() {
        Unchanged.by("misfit()", Counters::lived, x -> x.misfit(), 0 + 0 + 0 + 0);
        Unchanged.by("misfit() while shut", Counters::livedShut, x -> x.misfit(), 4 + 10 + 8 + 10);
    }
}
