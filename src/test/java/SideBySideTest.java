import java.util.Random;

/**
 * All promises: long runs of calls from fixed seeds, each call made on the program and on PlainCounter. Now and
 * then, and at the end, all that can be asked of both is asked.
 */
public final class SideBySideTest {
    private static final int RUNS = 1500;
    private static final int CALLS = 512;

    private final Random random;
    private final LuggageCounter x = new LuggageCounter();
    private final PlainCounter plain = new PlainCounter();
    private final String name;
    private final int mostShelves;
    private final int mostIn;
    private final int markValues;
    private final int longestStep;

    private SideBySideTest(int seed) {
        random = new Random(seed);
        name = "run " + seed + ": ";
        mostShelves = 1 + random.nextInt(18);
        mostIn = random.nextBoolean() ? 5 : 130;
        markValues = 1 + random.nextInt(16);
        longestStep = random.nextBoolean() ? 300 : 3000;
    }

    public static void main(String[] args) {
        for (int seed = 1; seed <= RUNS && Due.allRight(); seed++) {
            new SideBySideTest(seed).run();
        }
        Due.end();
    }

    private void run() {
        for (int call = 0; call < CALLS && Due.allRight(); call++) {
            oneCall();
            if (random.nextInt(64) == 0) {
                askAll();
            }
        }
        askAll();
    }

    /** Mostly a number as told, at times one beside it or far away. */
    private int from(int low, int high) {
        int r = random.nextInt(120);
        if (r == 0) {
            return low - 1;
        }
        if (r == 1) {
            return high + 1;
        }
        if (r == 2) {
            return random.nextInt();
        }
        if (r < 10) {
            return random.nextBoolean() ? low : high;
        }
        return high <= low ? low : low + random.nextInt(high - low + 1);
    }

    private boolean coin() {
        return random.nextInt(4) == 0;
    }

    private int someTicket() {
        int ticket = Tickets.of(from(0, Math.max(0, x.count(1) - 1)) & 0xFFFFF);
        return random.nextInt(20) == 0 ? ticket + from(-2, 2) : ticket;
    }

    private int someThing() {
        return from(0, Math.max(0, x.count(1) - 1));
    }

    private int someShelf() {
        return from(0, Math.max(0, x.count(0) - 1));
    }

    private int someClaim() {
        return from(0, Math.max(0, x.count(3) - 1));
    }

    private void oneCall() {
        int r = random.nextInt(100);
        if (r < 12) {
            clockOrHours();
        } else if (r < 20) {
            rowOrShelf();
        } else if (r < 40) {
            putOne();
        } else if (r < 50) {
            giveOrFee();
        } else if (r < 68) {
            aboutClaims();
        } else if (r < 82) {
            sellOrPay();
        } else if (r < 86) {
            tearOrMend();
        } else {
            aboutMisfit();
        }
    }

    private void clockOrHours() {
        if (random.nextInt(3) > 0) {
            int n = from(1, longestStep);
            Due.is(name + "clock(" + n + ")", x.clock(n), plain.clock(n));
            return;
        }
        int opens = random.nextBoolean() ? 0 : from(0, 1440);
        int shuts = random.nextInt(3) > 0 ? 1440 : from(0, 1440);
        Due.is(name + "hours(" + opens + ", " + shuts + ")", x.hours(opens, shuts), plain.hours(opens, shuts));
    }

    private void rowOrShelf() {
        if (random.nextInt(4) == 0) {
            int day = from(0, 20 + x.count(6));
            int[] p = {from(0, 1000), from(0, 1000), from(0, 1000), from(0, 1000)};
            Due.is(name + "prices(" + day + ", ..)", x.prices(day, p[0], p[1], p[2], p[3]),
                    plain.prices(day, p[0], p[1], p[2], p[3]));
            return;
        }
        if (x.count(0) >= mostShelves) {
            return;
        }
        int room = from(1, 60);
        int height = from(0, 2);
        boolean cold = coin();
        int distance = from(1, 99);
        Due.is(name + "shelf(" + room + ", " + height + ", " + cold + ", " + distance + ")",
                x.shelf(room, height, cold, distance), plain.shelf(room, height, cold, distance));
    }

    private void putOne() {
        if (x.count(2) >= mostIn) {
            return;
        }
        int size = from(1, 20);
        int height = from(0, random.nextInt(3));
        boolean cold = coin();
        boolean locked = coin();
        int marks = 0;
        for (int k = 0; k < 4; k++) {
            marks = marks * 16 + random.nextInt(markValues);
        }
        marks = random.nextInt(50) == 0 ? from(0, 65535) : marks;
        int due = random.nextBoolean() ? from(0, 100000) : from(0, Math.min(100000, x.count(5) + 6000));
        Due.is(name + "put(" + size + ", " + height + ", " + cold + ", " + locked + ", " + marks + ", " + due + ")",
                x.put(size, height, cold, locked, marks, due), plain.put(size, height, cold, locked, marks, due));
    }

    private void giveOrFee() {
        int ticket = someTicket();
        Due.is(name + "fee(" + ticket + ")", x.fee(ticket), plain.fee(ticket));
        if (coin()) {
            Due.is(name + "give(" + ticket + ")", x.give(ticket), plain.give(ticket));
        }
    }

    private void aboutClaims() {
        int r = random.nextInt(10);
        int claim = someClaim();
        if (r == 0) {
            Due.is(name + "claim()", x.claim(), plain.claim());
        } else if (r < 6) {
            int k = from(0, 3);
            int v = random.nextInt(8) == 0 ? -1 : from(0, 15);
            int model = coin() ? someThing() : x.count(1) - 1 - claim % 4;
            if (k >= 0 && k < 4 && random.nextInt(4) > 0 && x.thing(model, 4) >= 0) {
                v = x.thing(model, 4) >> 4 * k & 15;
            }
            Due.is(name + "mark(" + claim + ", " + k + ", " + v + ")", x.mark(claim, k, v), plain.mark(claim, k, v));
        } else if (r < 7) {
            Due.is(name + "means(" + claim + ")", x.means(claim), plain.means(claim));
        } else if (r < 8) {
            Due.is(name + "ask(" + claim + ")", x.ask(claim), plain.ask(claim));
        } else {
            Due.is(name + "settle(" + claim + ")", x.settle(claim), plain.settle(claim));
        }
    }

    private void sellOrPay() {
        if (random.nextInt(3) > 0) {
            int thing = someThing();
            int coins = from(0, random.nextBoolean() ? 100000 : 20000);
            Due.is(name + "sell(" + thing + ", " + coins + ")", x.sell(thing, coins), plain.sell(thing, coins));
        } else {
            int ticket = someTicket();
            Due.is(name + "pay(" + ticket + ")", x.pay(ticket), plain.pay(ticket));
        }
    }

    private void tearOrMend() {
        int shelf = someShelf();
        if (coin()) {
            Due.is(name + "tear(" + shelf + ")", x.tear(shelf), plain.tear(shelf));
        } else {
            Due.is(name + "mend(" + shelf + ")", x.mend(shelf), plain.mend(shelf));
        }
    }

    private void aboutMisfit() {
        int r = random.nextInt(6);
        if (r == 0) {
            Due.is(name + "misfit()", x.misfit(), plain.misfit());
        } else if (r == 1 && random.nextInt(4) == 0) {
            Due.is(name + "least()", x.least(), plain.least());
        } else {
            int n = random.nextBoolean() ? from(0, 3) : from(0, 50);
            Due.is(name + "tidy(" + n + ")", x.tidy(n), plain.tidy(n));
        }
    }

    private void askAll() {
        for (int what = -1; what <= 11; what++) {
            Due.is(name + "count(" + what + ")", x.count(what), plain.count(what));
        }
        for (int s = -1; s <= x.count(0); s++) {
            for (int what = -1; what <= 7; what++) {
                Due.is(name + "shelfOf(" + s + ", " + what + ")", x.shelfOf(s, what), plain.shelfOf(s, what));
            }
        }
        for (int t = -1; t <= x.count(1); t++) {
            for (int what = -1; what <= 13; what++) {
                Due.is(name + "thing(" + t + ", " + what + ")", x.thing(t, what), plain.thing(t, what));
            }
        }
        for (int c = -1; c <= x.count(3); c++) {
            for (int what = -1; what <= 14; what++) {
                Due.is(name + "claimOf(" + c + ", " + what + ")", x.claimOf(c, what), plain.claimOf(c, what));
            }
            Due.is(name + "means(" + c + ")", x.means(c), plain.means(c));
            Due.is(name + "ask(" + c + ")", x.ask(c), plain.ask(c));
        }
        Due.is(name + "misfit()", x.misfit(), plain.misfit());
    }
}
