/** A left luggage counter. The promises that it keeps are numbered in ../shared/DOC.md. */
public final class LuggageCounter {
    public static final int NONE = -1;

    private static final int LAST_MINUTE = 100000;
    private static final int MINUTES_A_DAY = 1440;
    private static final int MINUTES_AN_HOUR = 60;

    private static final int MOST_SHELVES = 16;
    private static final int MOST_ROOM = 60;
    private static final int MOST_HEIGHT = 2;
    private static final int MOST_DISTANCE = 99;

    private static final int MOST_THINGS = 120;
    private static final int MOST_SIZE = 20;
    private static final int MARKS = 4;
    private static final int MARK_BITS = 4;
    private static final int MOST_MARK = 15;
    private static final int MOST_MARKS = 65535;
    private static final int MOST_WANTED = 99;

    private static final int MOST_ROWS = 12;
    private static final int MOST_PRICE = 1000;

    private static final int MOST_CLAIMS = 40;
    private static final int ENOUGH_MARKS = 3;
    private static final int CLAIM_PRICE = 500;

    private static final int DAYS_TILL_SALE = 7;
    private static final int DAYS_COINS_ARE_KEPT = 30;
    private static final int MOST_COINS = 100000;

    private static final int MOST_MOVES = 50;
    private static final int MOST_LOOSE = 5;

    private static final int IN = 0;
    private static final int GIVEN = 1;
    private static final int SOLD = 2;
    private static final int PAID_OUT = 3;
    private static final int FALLEN = 4;
    private static final int HANDED_OVER = 5;

    private final Shelf[] shelves;
    private int shelfCount;
    private final Thing[] things;
    private int thingCount;
    private final Claim[] claims;
    private int claimCount;
    private final PriceRow[] rows;
    private int rowCount;
    private final int[] heaps;
    private final Arranger arranger;
    private int minute;
    private int opens;
    private int shuts;
    private int till;
    private int steps;

    public LuggageCounter() {
        shelves = new Shelf[MOST_SHELVES];
        things = new Thing[MOST_THINGS];
        claims = new Claim[MOST_CLAIMS];
        rows = new PriceRow[MOST_ROWS];
        heaps = new int[MOST_MARK + 1];
        arranger = new Arranger();
        shuts = MINUTES_A_DAY;
    }

    public int clock(int n) {
        if (n < 1 || n > LAST_MINUTE - minute) {
            return NONE;
        }
        minute += n;
        letOldCoinsFall();
        return minute;
    }

    public boolean hours(int opens, int shuts) {
        if (opens < 0 || shuts > MINUTES_A_DAY || opens >= shuts) {
            return false;
        }
        this.opens = opens;
        this.shuts = shuts;
        return true;
    }

    public boolean prices(int day, int base, int aDay, int aSize, int cold) {
        if (!isPrice(base) || !isPrice(aDay) || !isPrice(aSize) || !isPrice(cold)) {
            return false;
        }
        if (rowCount >= MOST_ROWS || day <= lastRowDay()) {
            return false;
        }
        rows[rowCount] = new PriceRow(day, base, aDay, aSize, cold);
        rowCount++;
        return true;
    }

    public int shelf(int room, int height, boolean cold, int distance) {
        if (!isWithin(room, 1, MOST_ROOM) || !isWithin(height, 0, MOST_HEIGHT)
                || !isWithin(distance, 1, MOST_DISTANCE) || shelfCount >= MOST_SHELVES) {
            return NONE;
        }
        int number = shelfCount;
        shelves[number] = new Shelf(number, room, height, cold, distance);
        shelfCount++;
        return number;
    }

    public int put(int size, int height, boolean cold, boolean locked, int marks, int due) {
        if (!isWithin(size, 1, MOST_SIZE) || !isWithin(height, 0, MOST_HEIGHT)
                || !isWithin(marks, 0, MOST_MARKS) || !isWithin(due, 0, LAST_MINUTE)) {
            return -2;
        }
        if (!isOpen()) {
            return -3;
        }
        if (thingCount >= MOST_THINGS) {
            return -4;
        }
        Thing thing = new Thing(size, height, cold, locked, marks, due, minute);
        Shelf shelf = shelfForNew(thing);
        if (shelf == null) {
            return -5;
        }
        int number = thingCount;
        things[number] = thing;
        thingCount++;
        shelf.take(thing);
        steps += 2 * shelf.distance;
        return ticketOf(number);
    }

    public int fee(int ticket) {
        if (!isTicket(ticket)) {
            return -2;
        }
        Thing thing = thingAt(ticket / 100);
        if (thing == null) {
            return -3;
        }
        if (thing.how != IN && thing.how != SOLD) {
            return -4;
        }
        return feeOf(thing);
    }

    public int give(int ticket) {
        int owed = fee(ticket);
        Thing thing = thingAt(ticket / 100);
        if (owed < 0 || thing == null) {
            return owed;
        }
        if (thing.how == SOLD) {
            return -5;
        }
        if (!isOpen()) {
            return -6;
        }
        if (thing.isStuck()) {
            return -7;
        }
        takeAway(thing, GIVEN);
        till += owed;
        return owed;
    }

    public int claim() {
        if (claimCount >= MOST_CLAIMS) {
            return NONE;
        }
        int number = claimCount;
        claims[number] = new Claim();
        claimCount++;
        return number;
    }

    public int mark(int claim, int k, int v) {
        Claim asked = claimAt(claim);
        if (asked == null || asked.done || !isWithin(k, 0, MARKS - 1)) {
            return NONE;
        }
        if (v != NONE && !isWithin(v, 0, MOST_MARK)) {
            return NONE;
        }
        asked.told[k] = v;
        return meantBy(asked);
    }

    public int means(int claim) {
        Claim asked = claimAt(claim);
        return asked == null ? NONE : meantBy(asked);
    }

    public int ask(int claim) {
        Claim asked = claimAt(claim);
        if (asked == null || asked.done || meantBy(asked) < 2) {
            return NONE;
        }
        int best = NONE;
        int leastHeap = MOST_THINGS + 1;
        for (int k = 0; k < MARKS; k++) {
            if (asked.told[k] != NONE) {
                continue;
            }
            int heap = greatestHeap(asked, k);
            if (heap < leastHeap) {
                leastHeap = heap;
                best = k;
            }
        }
        return best;
    }

    public int settle(int claim) {
        Claim asked = claimAt(claim);
        if (asked == null || asked.done) {
            return -2;
        }
        if (asked.toldCount() < ENOUGH_MARKS) {
            return -3;
        }
        int number = firstMeantBy(asked);
        Thing thing = thingAt(number);
        if (thing == null) {
            return -4;
        }
        if (meantBy(asked) > 1) {
            return -5;
        }
        if (isContested(asked, thing)) {
            return -6;
        }
        if (!isOpen()) {
            return -7;
        }
        if (thing.isStuck()) {
            return -8;
        }
        int owed = feeOf(thing) + CLAIM_PRICE;
        takeAway(thing, GIVEN);
        till += owed;
        asked.done = true;
        asked.got = number;
        return owed;
    }

    public int misfit() {
        int sum = 0;
        for (int i = 0; i < thingCount; i++) {
            Thing thing = things[i];
            if (thing != null && thing.how == IN) {
                sum += thing.misfitHere(minute);
            }
        }
        return sum;
    }

    public int tidy(int n) {
        if (!isWithin(n, 0, MOST_MOVES) || isOpen()) {
            return NONE;
        }
        int moves = 0;
        while (moves < n && makeBestMove()) {
            moves++;
        }
        return moves;
    }

    public int least() {
        arranger.clear();
        int stuck = 0;
        for (int i = 0; i < thingCount; i++) {
            Thing thing = things[i];
            if (thing == null || thing.how != IN) {
                continue;
            }
            if (thing.isStuck()) {
                stuck += thing.misfitHere(minute);
            } else if (!arranger.add(thing)) {
                return NONE;
            }
        }
        for (int i = 0; i < shelfCount; i++) {
            Shelf shelf = shelves[i];
            if (shelf != null && !shelf.torn) {
                arranger.offer(shelf, minute);
            }
        }
        return stuck + arranger.leastSum();
    }

    public int sell(int thing, int coins) {
        Thing sold = thingAt(thing);
        if (sold == null || !isWithin(coins, 0, MOST_COINS)) {
            return -2;
        }
        if (sold.how != IN) {
            return -3;
        }
        if (today() - sold.dueDay() < DAYS_TILL_SALE) {
            return -4;
        }
        if (sold.isStuck()) {
            return -5;
        }
        sold.soldDay = today();
        if (sold.locked) {
            takeAway(sold, HANDED_OVER);
            return 1;
        }
        takeAway(sold, SOLD);
        sold.coins = coins;
        return 0;
    }

    public int pay(int ticket) {
        if (!isTicket(ticket)) {
            return -2;
        }
        Thing thing = thingAt(ticket / 100);
        if (thing == null) {
            return -3;
        }
        if (thing.how != SOLD) {
            return -4;
        }
        if (!isOpen()) {
            return -6;
        }
        int stays = Math.min(feeOf(thing), thing.coins);
        int left = thing.coins - stays;
        till += stays;
        thing.coins = 0;
        thing.how = PAID_OUT;
        return left;
    }

    public boolean tear(int shelf) {
        Shelf torn = shelfAt(shelf);
        if (torn == null || torn.torn) {
            return false;
        }
        torn.torn = true;
        return true;
    }

    public boolean mend(int shelf) {
        Shelf mended = shelfAt(shelf);
        if (mended == null || !mended.torn) {
            return false;
        }
        mended.torn = false;
        return true;
    }

    public int shelfOf(int shelf, int what) {
        Shelf asked = shelfAt(shelf);
        if (asked == null) {
            return NONE;
        }
        switch (what) {
            case 0: return asked.room;
            case 1: return asked.height;
            case 2: return asNumber(asked.cold);
            case 3: return asked.distance;
            case 4: return asked.free;
            case 5: return asked.load;
            case 6: return asNumber(asked.torn);
            default: return NONE;
        }
    }

    public int thing(int thing, int what) {
        Thing asked = thingAt(thing);
        if (asked == null) {
            return NONE;
        }
        switch (what) {
            case 0: return asked.size;
            case 1: return asked.height;
            case 2: return asNumber(asked.cold);
            case 3: return asNumber(asked.locked);
            case 4: return asked.marks;
            case 5: return asked.due;
            case 6: return asked.came;
            case 7: return asked.how;
            case 8: return asked.placeNumber();
            case 9: return asked.wanted(minute);
            case 10: return asked.misfitHere(minute);
            case 11: return asked.coins;
            case 12: return asked.soldDay;
            default: return NONE;
        }
    }

    public int claimOf(int claim, int what) {
        Claim asked = claimAt(claim);
        if (asked == null) {
            return NONE;
        }
        if (isWithin(what, 10, 10 + MARKS - 1)) {
            return asked.told[what - 10];
        }
        switch (what) {
            case 0: return asked.toldCount();
            case 1: return asNumber(asked.done);
            case 2: return asked.got;
            default: return NONE;
        }
    }

    public int count(int what) {
        switch (what) {
            case 0: return shelfCount;
            case 1: return thingCount;
            case 2: return thingsIn();
            case 3: return claimCount;
            case 4: return rowCount;
            case 5: return minute;
            case 6: return today();
            case 7: return asNumber(isOpen());
            case 8: return till;
            case 9: return coinsKept();
            case 10: return steps;
            default: return NONE;
        }
    }

    private static boolean isWithin(int value, int lowest, int greatest) {
        return value >= lowest && value <= greatest;
    }

    private static boolean isPrice(int coins) {
        return isWithin(coins, 0, MOST_PRICE);
    }

    private static int asNumber(boolean is) {
        return is ? 1 : 0;
    }

    private static int dayOf(int someMinute) {
        return someMinute / MINUTES_A_DAY;
    }

    private int today() {
        return dayOf(minute);
    }

    private boolean isOpen() {
        int ofDay = minute % MINUTES_A_DAY;
        return ofDay >= opens && ofDay < shuts;
    }

    private Shelf shelfAt(int number) {
        return isWithin(number, 0, shelfCount - 1) ? shelves[number] : null;
    }

    private Thing thingAt(int number) {
        return isWithin(number, 0, thingCount - 1) ? things[number] : null;
    }

    private Claim claimAt(int number) {
        return isWithin(number, 0, claimCount - 1) ? claims[number] : null;
    }

    private static int ticketOf(int number) {
        return 100 * number + checkOf(number);
    }

    private static int checkOf(int number) {
        return (37 * number + 11) % 97;
    }

    private static boolean isTicket(int ticket) {
        return ticket >= 0 && ticket % 100 == checkOf(ticket / 100);
    }

    /** The day of the newest row; NONE, which lies below every day, while there is no row. */
    private int lastRowDay() {
        PriceRow last = rowCount > 0 ? rows[rowCount - 1] : null;
        return last == null ? NONE : last.from;
    }

    private PriceRow rowOn(int day) {
        PriceRow inForce = null;
        for (int i = 0; i < rowCount; i++) {
            PriceRow row = rows[i];
            if (row != null && row.from <= day) {
                inForce = row;
            }
        }
        return inForce;
    }

    private int feeOf(Thing thing) {
        int firstDay = dayOf(thing.came);
        int lastDay = thing.soldDay == NONE ? today() : thing.soldDay;
        PriceRow first = rowOn(firstDay);
        int sum = first == null ? 0 : first.base;
        for (int day = firstDay; day <= lastDay; day++) {
            PriceRow row = rowOn(day);
            if (row != null) {
                sum += day > thing.dueDay() ? 2 * row.dayPrice(thing) : row.dayPrice(thing);
            }
        }
        return sum;
    }

    private void letOldCoinsFall() {
        for (int i = 0; i < thingCount; i++) {
            Thing thing = things[i];
            if (thing != null && thing.how == SOLD && today() - thing.soldDay > DAYS_COINS_ARE_KEPT) {
                till += thing.coins;
                thing.coins = 0;
                thing.how = FALLEN;
            }
        }
    }

    private Shelf shelfForNew(Thing thing) {
        Shelf best = null;
        for (int i = 0; i < shelfCount; i++) {
            Shelf shelf = shelves[i];
            if (shelf != null && shelf.fits(thing) && (best == null || isNearer(shelf, best, thing))) {
                best = shelf;
            }
        }
        return best;
    }

    private boolean isNearer(Shelf shelf, Shelf other, Thing thing) {
        int here = thing.misfitOn(shelf, minute);
        int there = thing.misfitOn(other, minute);
        return here < there || here == there && shelf.distance < other.distance;
    }

    private void takeAway(Thing thing, int how) {
        Shelf shelf = thing.place;
        if (shelf != null) {
            steps += 2 * shelf.distance;
            shelf.release(thing);
        }
        thing.how = how;
    }

    private int meantBy(Claim claim) {
        int meant = 0;
        for (int i = 0; i < thingCount; i++) {
            Thing thing = things[i];
            if (thing != null && claim.isAbout(thing)) {
                meant++;
            }
        }
        return meant;
    }

    private int firstMeantBy(Claim claim) {
        for (int i = 0; i < thingCount; i++) {
            Thing thing = things[i];
            if (thing != null && claim.isAbout(thing)) {
                return i;
            }
        }
        return NONE;
    }

    private int greatestHeap(Claim claim, int k) {
        for (int v = 0; v < heaps.length; v++) {
            heaps[v] = 0;
        }
        int greatest = 0;
        for (int i = 0; i < thingCount; i++) {
            Thing thing = things[i];
            if (thing != null && claim.isAbout(thing)) {
                int v = thing.markAt(k);
                heaps[v]++;
                greatest = Math.max(greatest, heaps[v]);
            }
        }
        return greatest;
    }

    private boolean isContested(Claim asked, Thing thing) {
        for (int i = 0; i < claimCount; i++) {
            Claim other = claims[i];
            if (other != null && other != asked && !other.done && other.toldCount() >= ENOUGH_MARKS
                    && other.isAbout(thing) && meantBy(other) == 1) {
                return true;
            }
        }
        return false;
    }

    private boolean makeBestMove() {
        Thing moved = null;
        Shelf target = null;
        int greatestFall = 0;
        for (int i = 0; i < thingCount; i++) {
            Thing thing = things[i];
            if (thing == null) {
                continue;
            }
            Shelf better = shelfForMove(thing);
            if (better == null) {
                continue;
            }
            int fall = thing.misfitHere(minute) - thing.misfitOn(better, minute);
            if (fall > greatestFall) {
                greatestFall = fall;
                moved = thing;
                target = better;
            }
        }
        if (moved == null || target == null) {
            return false;
        }
        move(moved, target);
        return true;
    }

    /** The other shelf with the least misfit, of several the lowest number; null if it can't be moved. */
    private Shelf shelfForMove(Thing thing) {
        if (thing.how != IN || thing.isStuck()) {
            return null;
        }
        Shelf best = null;
        int leastMisfit = 0;
        for (int i = 0; i < shelfCount; i++) {
            Shelf shelf = shelves[i];
            if (shelf == null || shelf == thing.place || !shelf.fits(thing)) {
                continue;
            }
            int misfit = thing.misfitOn(shelf, minute);
            if (best == null || misfit < leastMisfit) {
                best = shelf;
                leastMisfit = misfit;
            }
        }
        return best;
    }

    private void move(Thing thing, Shelf target) {
        Shelf source = thing.place;
        if (source == null) {
            return;
        }
        steps += source.distance + target.distance;
        source.release(thing);
        target.take(thing);
    }

    private int thingsIn() {
        int sum = 0;
        for (int i = 0; i < shelfCount; i++) {
            Shelf shelf = shelves[i];
            if (shelf != null) {
                sum += shelf.load;
            }
        }
        return sum;
    }

    private int coinsKept() {
        int sum = 0;
        for (int i = 0; i < thingCount; i++) {
            Thing thing = things[i];
            if (thing != null) {
                sum += thing.coins;
            }
        }
        return sum;
    }

    private static final class Shelf {
        final int number;
        final int room;
        final int height;
        final boolean cold;
        final int distance;
        int free;
        int load;
        boolean torn;

        Shelf(int number, int room, int height, boolean cold, int distance) {
            this.number = number;
            this.room = room;
            this.height = height;
            this.cold = cold;
            this.distance = distance;
            free = room;
        }

        boolean suits(Thing thing) {
            return height >= thing.height && cold == thing.cold;
        }

        boolean fits(Thing thing) {
            return !torn && suits(thing) && free >= thing.size;
        }

        void take(Thing thing) {
            free -= thing.size;
            load++;
            thing.place = this;
        }

        void release(Thing thing) {
            free += thing.size;
            load--;
            thing.place = null;
        }
    }

    private static final class Thing {
        final int size;
        final int height;
        final boolean cold;
        final boolean locked;
        final int marks;
        final int due;
        final int came;
        int how;
        /** Null just when it isn't in. */
        Shelf place;
        /** Above 0 only while they are kept for its owner. */
        int coins;
        int soldDay;

        Thing(int size, int height, boolean cold, boolean locked, int marks, int due, int came) {
            this.size = size;
            this.height = height;
            this.cold = cold;
            this.locked = locked;
            this.marks = marks;
            this.due = due;
            this.came = came;
            how = IN;
            soldDay = NONE;
        }

        int dueDay() {
            return dayOf(due);
        }

        int markAt(int k) {
            return marks >> MARK_BITS * k & MOST_MARK;
        }

        int wanted(int now) {
            int hours = Math.max(due - now, 0) / MINUTES_AN_HOUR;
            return Math.min(1 + hours, MOST_WANTED);
        }

        int misfitOn(Shelf shelf, int now) {
            return Math.abs(shelf.distance - wanted(now));
        }

        int misfitHere(int now) {
            return place == null ? NONE : misfitOn(place, now);
        }

        int placeNumber() {
            return place == null ? NONE : place.number;
        }

        boolean isStuck() {
            return place != null && place.torn;
        }
    }

    private static final class Claim {
        final int[] told;
        boolean done;
        int got;

        Claim() {
            told = new int[MARKS];
            for (int k = 0; k < MARKS; k++) {
                told[k] = NONE;
            }
            got = NONE;
        }

        int toldCount() {
            int sum = 0;
            for (int k = 0; k < MARKS; k++) {
                if (told[k] != NONE) {
                    sum++;
                }
            }
            return sum;
        }

        boolean isAbout(Thing thing) {
            if (thing.how != IN) {
                return false;
            }
            for (int k = 0; k < MARKS; k++) {
                if (told[k] != NONE && told[k] != thing.markAt(k)) {
                    return false;
                }
            }
            return true;
        }
    }

    private static final class PriceRow {
        final int from;
        final int base;
        final int aDay;
        final int aSize;
        final int cold;

        PriceRow(int from, int base, int aDay, int aSize, int cold) {
            this.from = from;
            this.base = base;
            this.aDay = aDay;
            this.aSize = aSize;
            this.cold = cold;
        }

        int dayPrice(Thing thing) {
            int sum = aDay + aSize * thing.size;
            return thing.cold ? sum + cold : sum;
        }
    }

    /**
     * Finds the least sum of misfits over sets of things (a bit each): every shelf offered may take any
     * part of a set, so the work grows with shelves times sets, not with all the ways there are.
     */
    private static final class Arranger {
        private static final int NO_WAY = 1000000;

        private final Thing[] loose;
        private final int[] sums;
        private int size;

        Arranger() {
            loose = new Thing[MOST_LOOSE];
            sums = new int[1 << MOST_LOOSE];
        }

        void clear() {
            size = 0;
            sums[0] = 0;
            for (int set = 1; set < sums.length; set++) {
                sums[set] = NO_WAY;
            }
        }

        boolean add(Thing thing) {
            if (size >= MOST_LOOSE) {
                return false;
            }
            loose[size] = thing;
            size++;
            return true;
        }

        void offer(Shelf shelf, int now) {
            // From the greatest set down: the lesser sums that it reads don't hold this shelf yet.
            for (int set = fullSet(); set > 0; set--) {
                for (int part = 1; part <= set; part++) {
                    if ((part & set) == part) {
                        int sum = sums[set - part] + partSum(part, shelf, now);
                        sums[set] = Math.min(sums[set], sum);
                    }
                }
            }
        }

        int leastSum() {
            return sums[fullSet()];
        }

        private int fullSet() {
            return (1 << size) - 1;
        }

        /** The whole room counts: what stands on a shelf that isn't torn is loose. */
        private int partSum(int part, Shelf shelf, int now) {
            int sum = 0;
            int room = shelf.room;
            for (int i = 0; i < size; i++) {
                Thing thing = loose[i];
                if ((part >> i & 1) == 0 || thing == null) {
                    continue;
                }
                room -= thing.size;
                if (room < 0 || !shelf.suits(thing)) {
                    return NO_WAY;
                }
                sum += thing.misfitOn(shelf, now);
            }
            return sum;
        }
    }
}
