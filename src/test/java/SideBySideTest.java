import java.util.Random;

/**
 * All promises: long runs of calls from fixed seeds, each call made on the program and on PlainCounter. No object
 * gets more than the 512 calls for which the document answers; the last of them only ask.
 */
public final class SideBySideTest {
    private static final int RUNS = 6000;
    private static final int CALLS = 512;
    private static final int LAST_QUESTIONS = 150;

    private final Random random;
    private final LuggageCounter x = new LuggageCounter();
    private final PlainCounter plain = new PlainCounter();
    private final String name;
    private final int mostShelves;
    private final int mostIn;
    private final int markValues;
    private final int longestStep;
    private int calls;

    private SideBySideTest(int seed) {
        random = new Random(seed);
        name = "run " + seed + ": ";
        mostShelves = 1 + random.nextInt(18);
        mostIn = random.nextBoolean() ? 5 : 130;
        markValues = 1 + random.nextInt(16);
        int[] steps = {300, 3000, 6000};
        longestStep = steps[random.nextInt(3)];
    }

    public static void main(String[] args) {
        for (int seed = 1; seed <= RUNS && Due.allRight(); seed++) {
            new SideBySideTest(seed).run();
        }
        Due.end();
    }

    private void run() {
        while (calls < CALLS - LAST_QUESTIONS && Due.allRight()) {
            oneCall();
        }
        while (calls < CALLS && Due.allRight()) {
            oneQuestion();
        }
    }

    private void same(String call, int got, int due) {
        calls++;
        Due.is(name + call, got, due);
    }

    private void same(String call, boolean got, boolean due) {
        same(call, got ? 1 : 0, due ? 1 : 0);
    }

    /** Mostly a number as told, at times one beside it or far away. */
    private int from(int low, int high) {
        int r = random.nextInt(120);
        if (r == 0) {
            return low - 1;
        }
        if (r == 1) {
            return high + 1;
        }
        if (r == 2) {
            return random.nextInt();
        }
        if (r < 10) {
            return random.nextBoolean() ? low : high;
        }
        return high <= low ? low : low + random.nextInt(high - low + 1);
    }

    private boolean coin() {
        return random.nextInt(4) == 0;
    }

    private int someTicket() {
        int ticket = Tickets.of(from(0, Math.max(0, plain.count(1) - 1)) & 0xFFFFF);
        return random.nextInt(20) == 0 ? ticket + from(-2, 2) : ticket;
    }

    private int someThing() {
        return from(0, Math.max(0, plain.count(1) - 1));
    }

    private int someShelf() {
        return from(0, Math.max(0, plain.count(0) - 1));
    }

    private int someClaim() {
        return from(0, Math.max(0, plain.count(3) - 1));
    }

    private void oneCall() {
        int r = random.nextInt(115);
        if (r >= 100) {
            oneQuestion();
        } else if (r < 12) {
            clockOrHours();
        } else if (r < 20) {
            rowOrShelf();
        } else if (r < 40) {
            putOne();
        } else if (r < 50) {
            giveOrFee();
        } else if (r < 68) {
            aboutClaims();
        } else if (r < 82) {
            sellOrPay();
        } else if (r < 86) {
            tearOrMend();
        } else {
            aboutMisfit();
        }
    }

    private void clockOrHours() {
        if (random.nextInt(3) > 0) {
            int n = from(1, longestStep);
            same("clock(" + n + ")", x.clock(n), plain.clock(n));
            return;
        }
        int opens = random.nextBoolean() ? 0 : from(0, 1440);
        int shuts = random.nextInt(3) > 0 ? 1440 : from(0, 1440);
        same("hours(" + opens + ", " + shuts + ")", x.hours(opens, shuts), plain.hours(opens, shuts));
    }

    private void rowOrShelf() {
        if (random.nextInt(4) == 0) {
            int day = from(0, 20 + plain.count(6));
            int[] p = {from(0, 1000), from(0, 1000), from(0, 1000), from(0, 1000)};
            same("prices(" + day + ", ..)", x.prices(day, p[0], p[1], p[2], p[3]),
                    plain.prices(day, p[0], p[1], p[2], p[3]));
            return;
        }
        if (plain.count(0) >= mostShelves) {
            return;
        }
        int room = from(1, 60);
        int height = from(0, 2);
        boolean cold = coin();
        int distance = from(1, 99);
        same("shelf(" + room + ", " + height + ", " + cold + ", " + distance + ")",
                x.shelf(room, height, cold, distance), plain.shelf(room, height, cold, distance));
    }

    private void putOne() {
        if (plain.count(2) >= mostIn) {
            return;
        }
        int size = from(1, 20);
        int height = from(0, random.nextInt(3));
        boolean cold = coin();
        boolean locked = coin();
        int marks = 0;
        for (int k = 0; k < 4; k++) {
            marks = marks * 16 + random.nextInt(markValues);
        }
        marks = random.nextInt(50) == 0 ? from(0, 65535) : marks;
        int due = random.nextBoolean() ? from(0, 100000) : from(0, Math.min(100000, plain.count(5) + 6000));
        same("put(" + size + ", " + height + ", " + cold + ", " + locked + ", " + marks + ", " + due + ")",
                x.put(size, height, cold, locked, marks, due), plain.put(size, height, cold, locked, marks, due));
    }

    private void giveOrFee() {
        int ticket = someTicket();
        same("fee(" + ticket + ")", x.fee(ticket), plain.fee(ticket));
        if (coin()) {
            same("give(" + ticket + ")", x.give(ticket), plain.give(ticket));
        }
    }

    private void aboutClaims() {
        int r = random.nextInt(10);
        int claim = someClaim();
        if (r == 0) {
            same("claim()", x.claim(), plain.claim());
        } else if (r < 6) {
            int k = from(0, 3);
            int v = random.nextInt(8) == 0 ? -1 : from(0, 15);
            int model = coin() ? someThing() : plain.count(1) - 1 - claim % 4;
            if (k >= 0 && k < 4 && random.nextInt(4) > 0 && plain.thing(model, 4) >= 0) {
                v = plain.thing(model, 4) >> 4 * k & 15;
            }
            same("mark(" + claim + ", " + k + ", " + v + ")", x.mark(claim, k, v), plain.mark(claim, k, v));
        } else if (r < 7) {
            same("means(" + claim + ")", x.means(claim), plain.means(claim));
        } else if (r < 8) {
            same("ask(" + claim + ")", x.ask(claim), plain.ask(claim));
        } else {
            same("settle(" + claim + ")", x.settle(claim), plain.settle(claim));
        }
    }

    private void sellOrPay() {
        if (random.nextInt(3) > 0) {
            int thing = someThing();
            int coins = from(0, random.nextBoolean() ? 100000 : 20000);
            same("sell(" + thing + ", " + coins + ")", x.sell(thing, coins), plain.sell(thing, coins));
        } else {
            int ticket = someTicket();
            same("pay(" + ticket + ")", x.pay(ticket), plain.pay(ticket));
        }
    }

    private void tearOrMend() {
        int shelf = someShelf();
        if (coin()) {
            same("tear(" + shelf + ")", x.tear(shelf), plain.tear(shelf));
        } else {
            same("mend(" + shelf + ")", x.mend(shelf), plain.mend(shelf));
        }
    }

    private void aboutMisfit() {
        int r = random.nextInt(6);
        if (r == 0) {
            same("misfit()", x.misfit(), plain.misfit());
        } else if (r == 1 && random.nextInt(4) == 0) {
            same("least()", x.least(), plain.least());
        } else {
            int n = random.nextBoolean() ? from(0, 3) : from(0, 50);
            same("tidy(" + n + ")", x.tidy(n), plain.tidy(n));
        }
    }

    private void oneQuestion() {
        int r = random.nextInt(20);
        if (r < 3) {
            int what = from(0, 10);
            same("count(" + what + ")", x.count(what), plain.count(what));
        } else if (r < 6) {
            int shelf = someShelf();
            int what = from(0, 6);
            same("shelfOf(" + shelf + ", " + what + ")", x.shelfOf(shelf, what), plain.shelfOf(shelf, what));
        } else if (r < 13) {
            int thing = someThing();
            int what = from(0, 12);
            same("thing(" + thing + ", " + what + ")", x.thing(thing, what), plain.thing(thing, what));
        } else if (r < 16) {
            int claim = someClaim();
            int what = coin() ? from(0, 2) : from(10, 13);
            same("claimOf(" + claim + ", " + what + ")", x.claimOf(claim, what), plain.claimOf(claim, what));
        } else if (r < 17) {
            int claim = someClaim();
            same("means(" + claim + ")", x.means(claim), plain.means(claim));
        } else if (r < 18) {
            int claim = someClaim();
            same("ask(" + claim + ")", x.ask(claim), plain.ask(claim));
        } else if (r < 19) {
            int ticket = someTicket();
            same("fee(" + ticket + ")", x.fee(ticket), plain.fee(ticket));
        } else {
            same("misfit()", x.misfit(), plain.misfit());
        }
    }
}
