import java.util.ArrayList;
import java.util.List;

/**
 * The document told a second time, as plainly as can be: nothing is kept that can be worked out anew, and
 * least() tries every way. It shares no code with the program, so that the two can be held side by side.
 */
public final class PlainCounter {
    private record Place(int room, int height, boolean cold, int distance) {
    }

    private record Row(int day, int base, int aDay, int aSize, int cold) {
    }

    private static final class Item {
        int size, height, marks, due, came, how, coins;
        boolean cold, sealed;
        int on = -1;
        int saleDay = -1;
    }

    private static final class Ask {
        final Integer[] told = new Integer[4];
        Integer got;
    }

    private final List<Place> places = new ArrayList<>();
    private final List<Integer> torn = new ArrayList<>();
    private final List<Row> rows = new ArrayList<>();
    private final List<Item> items = new ArrayList<>();
    private final List<Ask> asks = new ArrayList<>();
    private int now = 0, from = 0, till = 1440, house = 0, walked = 0;

    private boolean open() {
        return now % 1440 >= from && now % 1440 < till;
    }

    private int wanted(Item i) {
        return i.due <= now ? 1 : Math.min(99, 1 + (i.due - now) / 60);
    }

    private int misfitAt(Item i, int place) {
        int d = places.get(place).distance;
        int w = wanted(i);
        return d > w ? d - w : w - d;
    }

    private int free(int place) {
        int used = 0;
        for (Item i : items) {
            used += i.on == place ? i.size : 0;
        }
        return places.get(place).room - used;
    }

    private boolean fits(Item i, int place) {
        Place p = places.get(place);
        return !torn.contains(place) && p.height >= i.height && p.cold == i.cold && free(place) >= i.size;
    }

    public int clock(int n) {
        if (n < 1 || (long) now + n > 100000) {
            return -1;
        }
        // Minute by minute, as coins fall on the way.
        for (int m = 0; m < n; m++) {
            now++;
            if (now % 1440 != 0) {
                continue;
            }
            for (Item i : items) {
                if (i.how == 2 && now / 1440 == i.saleDay + 31) {
                    i.how = 4;
                    house += i.coins;
                    i.coins = 0;
                }
            }
        }
        return now;
    }

    public boolean hours(int opens, int shuts) {
        if (opens < 0 || opens > 1440 || shuts < 0 || shuts > 1440 || shuts <= opens) {
            return false;
        }
        from = opens;
        till = shuts;
        return true;
    }

    public boolean prices(int day, int base, int aDay, int aSize, int cold) {
        int[] all = {base, aDay, aSize, cold};
        for (int p : all) {
            if (p < 0 || p > 1000) {
                return false;
            }
        }
        for (Row r : rows) {
            if (r.day >= day) {
                return false;
            }
        }
        return day >= 0 && rows.size() < 12 && rows.add(new Row(day, base, aDay, aSize, cold));
    }

    public int shelf(int room, int height, boolean cold, int distance) {
        boolean right = room >= 1 && room <= 60 && height >= 0 && height <= 2 && distance >= 1 && distance <= 99;
        if (!right || places.size() == 16) {
            return -1;
        }
        places.add(new Place(room, height, cold, distance));
        return places.size() - 1;
    }

    public int put(int size, int height, boolean cold, boolean locked, int marks, int due) {
        boolean right = size >= 1 && size <= 20 && height >= 0 && height <= 2 && marks >= 0 && marks <= 65535
                && due >= 0 && due <= 100000;
        if (!right) {
            return -2;
        }
        if (!open()) {
            return -3;
        }
        if (items.size() == 120) {
            return -4;
        }
        Item i = new Item();
        i.size = size;
        i.height = height;
        i.cold = cold;
        i.sealed = locked;
        i.marks = marks;
        i.due = due;
        i.came = now;
        int best = -1;
        int bestKey = Integer.MAX_VALUE;
        for (int p = 0; p < places.size(); p++) {
            int key = misfitAt(i, p) * 10000 + places.get(p).distance * 100 + p;
            if (fits(i, p) && key < bestKey) {
                bestKey = key;
                best = p;
            }
        }
        if (best < 0) {
            return -5;
        }
        i.on = best;
        items.add(i);
        walked += 2 * places.get(best).distance;
        return Tickets.of(items.size() - 1);
    }

    private Row inForce(int day) {
        Row found = null;
        for (Row r : rows) {
            if (r.day <= day && (found == null || r.day > found.day)) {
                found = r;
            }
        }
        return found;
    }

    private int owed(Item i) {
        int last = i.how == 0 ? now / 1440 : i.saleDay;
        Row first = inForce(i.came / 1440);
        int sum = first == null ? 0 : first.base;
        for (int day = i.came / 1440; day <= last; day++) {
            Row r = inForce(day);
            int price = r == null ? 0 : r.aDay + r.aSize * i.size + (i.cold ? r.cold : 0);
            sum += price;
            sum += day > i.due / 1440 ? price : 0;
        }
        return sum;
    }

    /** The number on a ticket, or what fee() answers to a wrong one. */
    private int read(int ticket) {
        for (int n = 0; n < items.size(); n++) {
            if (Tickets.of(n) == ticket) {
                return n;
            }
        }
        return ticket >= 0 && Tickets.of(ticket / 100) == ticket ? -3 : -2;
    }

    public int fee(int ticket) {
        int n = read(ticket);
        if (n < 0) {
            return n;
        }
        Item i = items.get(n);
        return i.how == 0 || i.how == 2 ? owed(i) : -4;
    }

    private void carryOff(Item i, int how) {
        walked += 2 * places.get(i.on).distance;
        i.on = -1;
        i.how = how;
    }

    public int give(int ticket) {
        int n = read(ticket);
        if (n < 0) {
            return n;
        }
        Item i = items.get(n);
        if (i.how != 0) {
            return i.how == 2 ? -5 : -4;
        }
        if (!open()) {
            return -6;
        }
        if (torn.contains(i.on)) {
            return -7;
        }
        int sum = owed(i);
        carryOff(i, 1);
        house += sum;
        return sum;
    }

    public int claim() {
        if (asks.size() == 40) {
            return -1;
        }
        asks.add(new Ask());
        return asks.size() - 1;
    }

    private static int markOf(Item i, int k) {
        int m = i.marks;
        for (int j = 0; j < k; j++) {
            m /= 16;
        }
        return m % 16;
    }

    private List<Integer> meant(Ask a) {
        List<Integer> list = new ArrayList<>();
        for (int n = 0; n < items.size(); n++) {
            boolean all = items.get(n).how == 0;
            for (int k = 0; k < 4; k++) {
                all = all && (a.told[k] == null || a.told[k] == markOf(items.get(n), k));
            }
            if (all) {
                list.add(n);
            }
        }
        return list;
    }

    private static int told(Ask a) {
        int sum = 0;
        for (Integer t : a.told) {
            sum += t == null ? 0 : 1;
        }
        return sum;
    }

    private boolean isClaim(int claim) {
        return claim >= 0 && claim < asks.size();
    }

    public int mark(int claim, int k, int v) {
        if (!isClaim(claim) || k < 0 || k > 3 || v < -1 || v > 15 || asks.get(claim).got != null) {
            return -1;
        }
        asks.get(claim).told[k] = v == -1 ? null : Integer.valueOf(v);
        return means(claim);
    }

    public int means(int claim) {
        return isClaim(claim) ? meant(asks.get(claim)).size() : -1;
    }

    public int ask(int claim) {
        if (!isClaim(claim) || asks.get(claim).got != null || means(claim) < 2) {
            return -1;
        }
        int best = -1;
        int bestHeap = Integer.MAX_VALUE;
        for (int k = 3; k >= 0; k--) {
            int greatest = 0;
            for (int v = 0; v < 16; v++) {
                int heap = 0;
                for (int n : meant(asks.get(claim))) {
                    heap += markOf(items.get(n), k) == v ? 1 : 0;
                }
                greatest = Math.max(greatest, heap);
            }
            if (asks.get(claim).told[k] == null && greatest <= bestHeap) {
                bestHeap = greatest;
                best = k;
            }
        }
        return best;
    }

    public int settle(int claim) {
        if (!isClaim(claim) || asks.get(claim).got != null) {
            return -2;
        }
        Ask mine = asks.get(claim);
        if (told(mine) < 3) {
            return -3;
        }
        List<Integer> mean = meant(mine);
        if (mean.size() != 1) {
            return mean.isEmpty() ? -4 : -5;
        }
        for (Ask other : asks) {
            if (other != mine && other.got == null && told(other) >= 3 && meant(other).equals(mean)) {
                return -6;
            }
        }
        if (!open()) {
            return -7;
        }
        Item i = items.get(mean.get(0));
        if (torn.contains(i.on)) {
            return -8;
        }
        int sum = owed(i) + 500;
        carryOff(i, 1);
        house += sum;
        mine.got = mean.get(0);
        return sum;
    }

    public int misfit() {
        int sum = 0;
        for (Item i : items) {
            sum += i.how == 0 ? misfitAt(i, i.on) : 0;
        }
        return sum;
    }

    public int tidy(int n) {
        if (n < 0 || n > 50 || open()) {
            return -1;
        }
        int done = 0;
        while (done < n) {
            int before = misfit();
            int bestSum = before;
            Item bestItem = null;
            int bestPlace = -1;
            for (Item i : items) {
                for (int p = 0; p < places.size(); p++) {
                    if (i.how != 0 || p == i.on || torn.contains(i.on) || !fits(i, p)) {
                        continue;
                    }
                    int sum = before - misfitAt(i, i.on) + misfitAt(i, p);
                    if (sum < bestSum) {
                        bestSum = sum;
                        bestItem = i;
                        bestPlace = p;
                    }
                }
            }
            if (bestItem == null) {
                break;
            }
            walked += places.get(bestItem.on).distance + places.get(bestPlace).distance;
            bestItem.on = bestPlace;
            done++;
        }
        return done;
    }

    public int least() {
        List<Item> loose = new ArrayList<>();
        int fixed = 0;
        for (Item i : items) {
            if (i.how == 0 && torn.contains(i.on)) {
                fixed += misfitAt(i, i.on);
            } else if (i.how == 0) {
                loose.add(i);
            }
        }
        if (loose.size() > 5) {
            return -1;
        }
        int[] back = new int[loose.size()];
        for (int j = 0; j < back.length; j++) {
            back[j] = loose.get(j).on;
            loose.get(j).on = -1;
        }
        int best = tryAll(loose, 0);
        for (int j = 0; j < back.length; j++) {
            loose.get(j).on = back[j];
        }
        return fixed + best;
    }

    private int tryAll(List<Item> loose, int at) {
        if (at == loose.size()) {
            return 0;
        }
        int best = 1000000;
        Item i = loose.get(at);
        for (int p = 0; p < places.size(); p++) {
            if (fits(i, p)) {
                i.on = p;
                best = Math.min(best, misfitAt(i, p) + tryAll(loose, at + 1));
                i.on = -1;
            }
        }
        return best;
    }

    public int sell(int thing, int coins) {
        if (thing < 0 || thing >= items.size() || coins < 0 || coins > 100000) {
            return -2;
        }
        Item i = items.get(thing);
        if (i.how != 0) {
            return -3;
        }
        if (now / 1440 < i.due / 1440 + 7) {
            return -4;
        }
        if (torn.contains(i.on)) {
            return -5;
        }
        i.saleDay = now / 1440;
        carryOff(i, i.sealed ? 5 : 2);
        i.coins = i.sealed ? 0 : coins;
        return i.sealed ? 1 : 0;
    }

    public int pay(int ticket) {
        int n = read(ticket);
        if (n < 0) {
            return n;
        }
        Item i = items.get(n);
        if (i.how != 2) {
            return -4;
        }
        if (!open()) {
            return -6;
        }
        int left = Math.max(0, i.coins - owed(i));
        house += i.coins - left;
        i.coins = 0;
        i.how = 3;
        return left;
    }

    public boolean tear(int shelf) {
        return shelf >= 0 && shelf < places.size() && !torn.contains(shelf) && torn.add(shelf);
    }

    public boolean mend(int shelf) {
        return torn.remove(Integer.valueOf(shelf));
    }

    public int shelfOf(int shelf, int what) {
        if (shelf < 0 || shelf >= places.size() || what < 0 || what > 6) {
            return -1;
        }
        Place p = places.get(shelf);
        int load = 0;
        for (Item i : items) {
            load += i.on == shelf ? 1 : 0;
        }
        int[] all = {p.room, p.height, p.cold ? 1 : 0, p.distance, free(shelf), load, torn.contains(shelf) ? 1 : 0};
        return all[what];
    }

    public int thing(int thing, int what) {
        if (thing < 0 || thing >= items.size() || what < 0 || what > 12) {
            return -1;
        }
        Item i = items.get(thing);
        int[] all = {i.size, i.height, i.cold ? 1 : 0, i.sealed ? 1 : 0, i.marks, i.due, i.came, i.how, i.on,
                wanted(i), i.how == 0 ? misfitAt(i, i.on) : -1, i.coins, i.saleDay};
        return all[what];
    }

    public int claimOf(int claim, int what) {
        if (!isClaim(claim)) {
            return -1;
        }
        Ask a = asks.get(claim);
        if (what >= 10 && what <= 13) {
            return a.told[what - 10] == null ? -1 : a.told[what - 10];
        }
        if (what == 0) {
            return told(a);
        }
        if (what == 1) {
            return a.got == null ? 0 : 1;
        }
        return what == 2 && a.got != null ? a.got : -1;
    }

    public int count(int what) {
        int in = 0;
        int kept = 0;
        for (Item i : items) {
            in += i.how == 0 ? 1 : 0;
            kept += i.how == 2 ? i.coins : 0;
        }
        int[] all = {places.size(), items.size(), in, asks.size(), rows.size(), now, now / 1440, open() ? 1 : 0,
                house, kept, walked};
        return what < 0 || what >= all.length ? -1 : all[what];
    }
}
