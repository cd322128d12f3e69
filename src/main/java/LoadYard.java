import java.util.Arrays;

/**
 * A yard where many loads go through one net at once. The document tells what
 * each call answers; the words in capitals there are the names used here.
 */
public final class LoadYard {
    public static final int NUMBER = -1;
    public static final int FULL = -2;
    public static final int KIND = -3;
    public static final int NONE = -4;
    public static final int STATE = -5;

    private static final int MOST_POSTS = 9;
    private static final int MOST_ROADS = 20;
    private static final int MOST_LOADS = 5;
    private static final int MOST_WAYS = 8;
    /** A way comes to no post twice, so it has fewer roads than there are posts. */
    private static final int MOST_STEPS = MOST_POSTS - 1;
    private static final int MOST_ROOM = 100;
    private static final int MOST_PRICE = 50;
    private static final int MOST_SIZE = 100;
    private static final int MOST_AMOUNT = 100;
    private static final int MOST_LENGTH = 20;

    private static final int PARTED = 0;
    private static final int ONE = 1;
    private static final int HELD = 2;

    private static final int ALL_LOADS = -1;
    private static final int NO_WAY_AT_ALL = -2;

    private final Net now = new Net();
    private final Net keptNet = new Net();
    private final Sending sending = new Sending();
    private final Sending keptSending = new Sending();
    private final Ways ways = new Ways();
    private final Distances distances = new Distances();
    private final Choice choice = new Choice();
    private final Shares shares = new Shares();
    private boolean anythingKept = false;

    public LoadYard() {
    }

    // ---- the net

    public int net(int n) {
        if (!isWithin(n, 1, MOST_POSTS)) {
            return NUMBER;
        }
        now.clear(n);
        sending.clear();
        ways.forget();
        return n;
    }

    public int road(int p, int q, int room, int price) {
        if (!now.hasUnlikePosts(p, q) || !isWithin(room, 0, MOST_ROOM) || !isWithin(price, 0, MOST_PRICE)) {
            return NUMBER;
        }
        if (now.roadCount >= MOST_ROADS) {
            return FULL;
        }
        sending.clear();
        ways.forget();
        return now.addRoad(p, q, room, price);
    }

    public int room(int road, int room) {
        if (!now.hasRoad(road) || !isWithin(room, 0, MOST_ROOM)) {
            return NUMBER;
        }
        int was = now.room[road];
        now.room[road] = room;
        return was;
    }

    public int of(int road, int what) {
        if (!now.hasRoad(road)) {
            return NUMBER;
        }
        switch (what) {
            case 0: return now.lesser[road];
            case 1: return now.greater[road];
            case 2: return now.room[road];
            case 3: return now.price[road];
            case 4: return sending.usedOn(foundWays(), road);
            case 5: return sending.overOn(now, foundWays(), road);
            case 6: return now.length[road];
            default: return NUMBER;
        }
    }

    public int load(int kind, int from, int to, int size) {
        if (!now.hasUnlikePosts(from, to) || !isWithin(kind, PARTED, HELD) || !isWithin(size, 1, MOST_SIZE)) {
            return NUMBER;
        }
        if (now.loadCount >= MOST_LOADS) {
            return FULL;
        }
        return now.addLoad(kind, from, to, size);
    }

    public int resize(int load, int size) {
        if (!now.hasLoad(load) || !isWithin(size, 1, MOST_SIZE)) {
            return NUMBER;
        }
        int was = now.size[load];
        now.size[load] = size;
        return was;
    }

    public int hold(int load, int i) {
        if (!now.hasLoad(load)) {
            return NUMBER;
        }
        if (now.kind[load] != HELD) {
            return KIND;
        }
        if (!foundWays().has(load, i)) {
            return NONE;
        }
        int was = sending.held[load];
        sending.held[load] = i;
        return was;
    }

    public int told(int load, int what) {
        if (!now.hasLoad(load)) {
            return NUMBER;
        }
        switch (what) {
            case 0: return now.kind[load];
            case 1: return now.from[load];
            case 2: return now.to[load];
            case 3: return now.size[load];
            case 4: return foundWays().count[load];
            case 5: return sending.total(load);
            case 6: return Cuts.wallOf(now, Cuts.meeting(now, load));
            case 7: return distances.farOf(now, load);
            case 8: return now.kind[load] == HELD ? sending.held[load] : -1;
            case 9: return sending.parts(load);
            default: return NUMBER;
        }
    }

    public int is(int load, int kind) {
        if (!now.hasLoad(load) || !isWithin(kind, PARTED, HELD)) {
            return NUMBER;
        }
        // HELD ones are ONE, too, and all are PARTED: the kinds stand in that order.
        return now.kind[load] >= kind ? 1 : 0;
    }

    // ---- ways

    public int roads(int load, int i) {
        int refusal = refusalOfWay(load, i);
        return refusal != 0 ? refusal : ways.steps[slot(load, i)];
    }

    public int way(int load, int i, int k) {
        int refusal = refusalOfWay(load, i);
        if (refusal != 0) {
            return refusal;
        }
        if (!isWithin(k, 0, ways.steps[slot(load, i)] - 1)) {
            return NONE;
        }
        return ways.step(slot(load, i), k);
    }

    public int price(int load, int i) {
        int refusal = refusalOfWay(load, i);
        return refusal != 0 ? refusal : ways.pricesOf(now, slot(load, i));
    }

    public int cheap(int load) {
        int refusal = refusalOfWay(load, 0);
        return refusal != 0 ? refusal : ways.cheapest(now, load);
    }

    // ---- the sending

    public int send(int load, int i, int amount) {
        if (!now.hasLoad(load) || !isWithin(amount, 0, MOST_AMOUNT)) {
            return NUMBER;
        }
        if (!foundWays().has(load, i)) {
            return NONE;
        }
        int was = sending.amount[slot(load, i)];
        sending.amount[slot(load, i)] = amount;
        return was;
    }

    public int sent(int load, int i) {
        int refusal = refusalOfWay(load, i);
        return refusal != 0 ? refusal : sending.amount[slot(load, i)];
    }

    public int fill(int load) {
        if (!now.hasLoad(load)) {
            return NUMBER;
        }
        switch (now.kind[load]) {
            case HELD: return sending.fillHeld(now, foundWays(), load);
            case ONE: return sending.fillOne(now, foundWays(), load);
            default: return sending.fillParted(now, foundWays(), load);
        }
    }

    public int empty(int load) {
        if (load == ALL_LOADS) {
            int all = sending.totalOfAll();
            sending.clearAmounts();
            return all;
        }
        if (!now.hasLoad(load)) {
            return NUMBER;
        }
        int was = sending.total(load);
        sending.clearAmountsOf(load);
        return was;
    }

    public int many(int what) {
        switch (what) {
            case 0: return now.posts;
            case 1: return now.roadCount;
            case 2: return now.loadCount;
            case 3: return sending.roadsOver(now, foundWays());
            case 4: return sending.overOnAll(now, foundWays());
            case 5: return sending.cost(now, foundWays());
            case 6: return sending.fits(now, foundWays()) ? 1 : 0;
            case 7: return sending.totalOfAll();
            case 8: return now.allSizes();
            default: return NUMBER;
        }
    }

    public int over() {
        int road = sending.firstOver(now, foundWays());
        return road < 0 ? NONE : road;
    }

    public int ones() {
        if (now.loadCount == 0 || !choice.search(now, foundWays(), sending)) {
            return NONE;
        }
        sending.clearAmounts();
        for (int load = 0; load < now.loadCount; load++) {
            sending.amount[slot(load, choice.best[load])] = now.size[load];
        }
        return choice.bestCost;
    }

    // ---- walls and measures

    public int wall(int cut) {
        return Cuts.isCut(now, cut) ? Cuts.wallOf(now, cut) : NUMBER;
    }

    public int call(int cut) {
        return Cuts.isCut(now, cut) ? Cuts.callOf(now, cut) : NUMBER;
    }

    public int bars() {
        int cut = Cuts.worst(now);
        return cut == 0 ? 0 : Cuts.excess(now, cut);
    }

    public int barring() {
        int cut = Cuts.worst(now);
        return cut == 0 ? NONE : cut;
    }

    public int meets(int load) {
        return now.hasLoad(load) ? Cuts.meeting(now, load) : NUMBER;
    }

    public int measure(int road, int length) {
        if (!now.hasRoad(road) || !isWithin(length, 0, MOST_LENGTH)) {
            return NUMBER;
        }
        int was = now.length[road];
        now.length[road] = length;
        return was;
    }

    public int barred() {
        int need = 0;
        for (int load = 0; load < now.loadCount; load++) {
            int far = distances.farOf(now, load);
            if (far < 0) {
                return NO_WAY_AT_ALL;
            }
            need += now.size[load] * far;
        }
        return Math.max(0, need - now.roomTimesLength());
    }

    // ---- shares, rooms to buy

    public int share(int load, int what) {
        if (!now.hasLoad(load) || !isWithin(what, 0, 1)) {
            return NUMBER;
        }
        shares.raise(now, foundWays(), sending);
        return what == 0 ? shares.above(load) : shares.below(load);
    }

    public int whole() {
        shares.raise(now, foundWays(), sending);
        return shares.countWhole(now);
    }

    public int buy() {
        Ways found = foundWays();
        for (int road = 0; road < now.roadCount; road++) {
            if (sending.usedOn(found, road) > MOST_ROOM) {
                return STATE;
            }
        }
        int bought = 0;
        for (int road = 0; road < now.roadCount; road++) {
            int more = sending.overOn(now, found, road);
            now.room[road] += more;
            bought += more;
        }
        return bought;
    }

    // ---- kept

    public int keep() {
        keptNet.copy(now);
        keptSending.copy(sending);
        anythingKept = true;
        return 1;
    }

    public int back() {
        if (!anythingKept) {
            return STATE;
        }
        now.copy(keptNet);
        sending.copy(keptSending);
        ways.forget();
        return 1;
    }

    // ---- what several calls use

    private static boolean isWithin(int number, int least, int most) {
        return number >= least && number <= most;
    }

    /** Where the rows over all loads and their ways have what is of way i of a load. */
    private static int slot(int load, int i) {
        return load * MOST_WAYS + i;
    }

    private Ways foundWays() {
        ways.find(now);
        return ways;
    }

    /** 0 if there is such a way; the ways of the load are found then. */
    private int refusalOfWay(int load, int i) {
        if (!now.hasLoad(load)) {
            return NUMBER;
        }
        return foundWays().has(load, i) ? 0 : NONE;
    }

    /** The posts, roads and loads, with room for as many as may be. */
    private static final class Net {
        int posts = 1;
        int roadCount = 0;
        int loadCount = 0;
        final int[] lesser = new int[MOST_ROADS];
        final int[] greater = new int[MOST_ROADS];
        final int[] room = new int[MOST_ROADS];
        final int[] price = new int[MOST_ROADS];
        final int[] length = new int[MOST_ROADS];
        final int[] kind = new int[MOST_LOADS];
        final int[] from = new int[MOST_LOADS];
        final int[] to = new int[MOST_LOADS];
        final int[] size = new int[MOST_LOADS];

        void clear(int n) {
            posts = n;
            roadCount = 0;
            loadCount = 0;
        }

        void copy(Net other) {
            posts = other.posts;
            roadCount = other.roadCount;
            loadCount = other.loadCount;
            System.arraycopy(other.lesser, 0, lesser, 0, MOST_ROADS);
            System.arraycopy(other.greater, 0, greater, 0, MOST_ROADS);
            System.arraycopy(other.room, 0, room, 0, MOST_ROADS);
            System.arraycopy(other.price, 0, price, 0, MOST_ROADS);
            System.arraycopy(other.length, 0, length, 0, MOST_ROADS);
            System.arraycopy(other.kind, 0, kind, 0, MOST_LOADS);
            System.arraycopy(other.from, 0, from, 0, MOST_LOADS);
            System.arraycopy(other.to, 0, to, 0, MOST_LOADS);
            System.arraycopy(other.size, 0, size, 0, MOST_LOADS);
        }

        boolean hasUnlikePosts(int p, int q) {
            return p != q && isWithin(p, 0, posts - 1) && isWithin(q, 0, posts - 1);
        }

        boolean hasRoad(int road) {
            return isWithin(road, 0, roadCount - 1);
        }

        boolean hasLoad(int load) {
            return isWithin(load, 0, loadCount - 1);
        }

        int addRoad(int p, int q, int itsRoom, int itsPrice) {
            int road = roadCount;
            lesser[road] = Math.min(p, q);
            greater[road] = Math.max(p, q);
            room[road] = itsRoom;
            price[road] = itsPrice;
            length[road] = 1;
            roadCount = road + 1;
            return road;
        }

        int addLoad(int itsKind, int first, int last, int itsSize) {
            int load = loadCount;
            kind[load] = itsKind;
            from[load] = first;
            to[load] = last;
            size[load] = itsSize;
            loadCount = load + 1;
            return load;
        }

        /** The post to which a road leads from a post; -1 if it has no end there. */
        int across(int road, int post) {
            if (lesser[road] == post) {
                return greater[road];
            }
            return greater[road] == post ? lesser[road] : -1;
        }

        int allSizes() {
            int sum = 0;
            for (int load = 0; load < loadCount; load++) {
                sum += size[load];
            }
            return sum;
        }

        int roomTimesLength() {
            int sum = 0;
            for (int road = 0; road < roadCount; road++) {
                sum += room[road] * length[road];
            }
            return sum;
        }
    }

    /** The least sums of lengths from one post to all. */
    private static final class Distances {
        /** Above every sum of lengths of a way. */
        private static final int UNREACHED = 1000000;

        final int[] to = new int[MOST_POSTS];

        /** FAR of a load; -1 if its posts have no way. */
        int farOf(Net net, int load) {
            spread(net, net.from[load], net.length);
            int far = to[net.to[load]];
            return far < UNREACHED ? far : -1;
        }

        void spread(Net net, int start, int[] length) {
            Arrays.fill(to, UNREACHED);
            to[start] = 0;
            boolean changed = true;
            for (int round = 1; round < net.posts && changed; round++) {
                changed = false;
                for (int road = 0; road < net.roadCount; road++) {
                    boolean there = shorten(net.lesser[road], net.greater[road], length[road]);
                    boolean here = shorten(net.greater[road], net.lesser[road], length[road]);
                    changed = changed || there || here;
                }
            }
        }

        private boolean shorten(int post, int next, int length) {
            if (to[post] + length >= to[next]) {
                return false;
            }
            to[next] = to[post] + length;
            return true;
        }
    }

    /** THE WAYS of each load, found when they are asked for after the roads became others. */
    private static final class Ways {
        final int[] count = new int[MOST_LOADS];
        final int[] steps = new int[MOST_LOADS * MOST_WAYS];
        /** The roads of each way as a set: bit r stands for road r. */
        final int[] mask = new int[MOST_LOADS * MOST_WAYS];
        private final int[] road = new int[MOST_LOADS * MOST_WAYS * MOST_STEPS];
        private final boolean[] found = new boolean[MOST_LOADS];
        private final Distances left = new Distances();
        private final int[] oneEach = new int[MOST_ROADS];
        private final int[] trail = new int[MOST_STEPS];

        Ways() {
            for (int r = 0; r < MOST_ROADS; r++) {
                oneEach[r] = 1;
            }
        }

        void forget() {
            for (int load = 0; load < MOST_LOADS; load++) {
                found[load] = false;
            }
        }

        boolean has(int load, int i) {
            return isWithin(i, 0, count[load] - 1);
        }

        int step(int slot, int k) {
            return road[slot * MOST_STEPS + k];
        }

        boolean goesOver(int slot, int r) {
            return (mask[slot] >> r & 1) != 0;
        }

        int pricesOf(Net net, int slot) {
            int sum = 0;
            for (int k = 0; k < steps[slot]; k++) {
                sum += net.price[step(slot, k)];
            }
            return sum;
        }

        int cheapest(Net net, int load) {
            int best = 0;
            int least = pricesOf(net, slot(load, 0));
            for (int i = 1; i < count[load]; i++) {
                int prices = pricesOf(net, slot(load, i));
                if (prices < least) {
                    least = prices;
                    best = i;
                }
            }
            return best;
        }

        void find(Net net) {
            for (int load = 0; load < net.loadCount; load++) {
                if (!found[load]) {
                    findOf(net, load);
                    found[load] = true;
                }
            }
        }

        /** Shorter ones come first, so each length is gone through in turn. */
        private void findOf(Net net, int load) {
            count[load] = 0;
            left.spread(net, net.to[load], oneEach);
            int start = net.from[load];
            for (int length = left.to[start]; length < net.posts && count[load] < MOST_WAYS; length++) {
                extend(this, net, load, start, 1 << start, 0, length);
            }
        }

        /** Tries the lesser road first, so ways of one length come in their order. */
        private static void extend(Ways w, Net net, int load, int at, int seen, int depth, int length) {
            if (at == net.to[load]) {
                if (depth == length) {
                    w.note(load, length);
                }
                return;
            }
            if (depth >= length || depth >= MOST_STEPS) {
                return;
            }
            for (int r = 0; r < net.roadCount && w.count[load] < MOST_WAYS; r++) {
                int next = net.across(r, at);
                if (next < 0 || (seen >> next & 1) != 0 || w.left.to[next] >= length - depth) {
                    continue;
                }
                w.trail[depth] = r;
                extend(w, net, load, next, seen | 1 << next, depth + 1, length);
            }
        }

        private void note(int load, int length) {
            if (count[load] >= MOST_WAYS || length > MOST_STEPS) {
                return;
            }
            int slot = slot(load, count[load]);
            count[load]++;
            steps[slot] = length;
            mask[slot] = 0;
            for (int k = 0; k < length; k++) {
                road[slot * MOST_STEPS + k] = trail[k];
                mask[slot] |= 1 << trail[k];
            }
        }
    }

    /** THE SENDING, and the ways that are told of held loads. */
    private static final class Sending {
        /** 0 wherever there is no such load or way. */
        final int[] amount = new int[MOST_LOADS * MOST_WAYS];
        final int[] held = new int[MOST_LOADS];

        void clear() {
            clearAmounts();
            Arrays.fill(held, 0);
        }

        void clearAmounts() {
            Arrays.fill(amount, 0);
        }

        void clearAmountsOf(int load) {
            for (int i = 0; i < MOST_WAYS; i++) {
                amount[slot(load, i)] = 0;
            }
        }

        void copy(Sending other) {
            System.arraycopy(other.amount, 0, amount, 0, MOST_LOADS * MOST_WAYS);
            System.arraycopy(other.held, 0, held, 0, MOST_LOADS);
        }

        int total(int load) {
            int sum = 0;
            for (int i = 0; i < MOST_WAYS; i++) {
                sum += amount[slot(load, i)];
            }
            return sum;
        }

        int totalOfAll() {
            int sum = 0;
            for (int load = 0; load < MOST_LOADS; load++) {
                sum += total(load);
            }
            return sum;
        }

        int parts(int load) {
            int many = 0;
            for (int i = 0; i < MOST_WAYS; i++) {
                if (amount[slot(load, i)] != 0) {
                    many++;
                }
            }
            return many;
        }

        /** The first way with an amount that isn't 0; -1 if there is none. */
        int firstPart(int load) {
            for (int i = 0; i < MOST_WAYS; i++) {
                if (amount[slot(load, i)] != 0) {
                    return i;
                }
            }
            return -1;
        }

        int usedOn(Ways ways, int road) {
            int sum = 0;
            for (int slot = 0; slot < MOST_LOADS * MOST_WAYS; slot++) {
                if (amount[slot] != 0 && ways.goesOver(slot, road)) {
                    sum += amount[slot];
                }
            }
            return sum;
        }

        int overOn(Net net, Ways ways, int road) {
            return Math.max(0, usedOn(ways, road) - net.room[road]);
        }

        int overOnAll(Net net, Ways ways) {
            int sum = 0;
            for (int road = 0; road < net.roadCount; road++) {
                sum += overOn(net, ways, road);
            }
            return sum;
        }

        int roadsOver(Net net, Ways ways) {
            int many = 0;
            for (int road = 0; road < net.roadCount; road++) {
                if (overOn(net, ways, road) > 0) {
                    many++;
                }
            }
            return many;
        }

        /** -1 if none is. */
        int firstOver(Net net, Ways ways) {
            for (int road = 0; road < net.roadCount; road++) {
                if (overOn(net, ways, road) > 0) {
                    return road;
                }
            }
            return -1;
        }

        int cost(Net net, Ways ways) {
            int sum = 0;
            for (int slot = 0; slot < MOST_LOADS * MOST_WAYS; slot++) {
                if (amount[slot] != 0) {
                    sum += amount[slot] * ways.pricesOf(net, slot);
                }
            }
            return sum;
        }

        boolean fits(Net net, Ways ways) {
            for (int load = 0; load < net.loadCount; load++) {
                if (!isSentAsItMust(net, load)) {
                    return false;
                }
            }
            return firstOver(net, ways) < 0;
        }

        private boolean isSentAsItMust(Net net, int load) {
            if (total(load) != net.size[load]) {
                return false;
            }
            switch (net.kind[load]) {
                case HELD: return parts(load) == 1 && firstPart(load) == held[load];
                case ONE: return parts(load) == 1;
                default: return true;
            }
        }

        private int missing(Net net, int load) {
            return Math.max(0, net.size[load] - total(load));
        }

        private int freeOn(Net net, Ways ways, int slot) {
            int free = MOST_ROOM;
            for (int k = 0; k < ways.steps[slot]; k++) {
                int road = ways.step(slot, k);
                free = Math.min(free, net.room[road] - usedOn(ways, road));
            }
            return Math.max(0, free);
        }

        private int addFree(Net net, Ways ways, int slot, int wanted) {
            int added = Math.min(wanted, freeOn(net, ways, slot));
            amount[slot] += added;
            return added;
        }

        int fillParted(Net net, Ways ways, int load) {
            int wanted = missing(net, load);
            int added = 0;
            for (int i = 0; i < ways.count[load] && added < wanted; i++) {
                added += addFree(net, ways, slot(load, i), wanted - added);
            }
            return added;
        }

        int fillHeld(Net net, Ways ways, int load) {
            if (!ways.has(load, held[load])) {
                return 0;
            }
            return addFree(net, ways, slot(load, held[load]), missing(net, load));
        }

        int fillOne(Net net, Ways ways, int load) {
            if (parts(load) != 0) {
                return 0;
            }
            int wanted = net.size[load];
            for (int i = 0; i < ways.count[load]; i++) {
                if (freeOn(net, ways, slot(load, i)) >= wanted) {
                    amount[slot(load, i)] = wanted;
                    return wanted;
                }
            }
            return 0;
        }
    }

    /** Sets of posts, and what goes over their edge. */
    private static final class Cuts {
        static boolean isCut(Net net, int cut) {
            return isWithin(cut, 1, (1 << net.posts) - 2);
        }

        private static boolean parts(int cut, int p, int q) {
            return (cut >> p & 1) != (cut >> q & 1);
        }

        static int wallOf(Net net, int cut) {
            int sum = 0;
            for (int road = 0; road < net.roadCount; road++) {
                if (parts(cut, net.lesser[road], net.greater[road])) {
                    sum += net.room[road];
                }
            }
            return sum;
        }

        static int callOf(Net net, int cut) {
            int sum = 0;
            for (int load = 0; load < net.loadCount; load++) {
                if (parts(cut, net.from[load], net.to[load])) {
                    sum += net.size[load];
                }
            }
            return sum;
        }

        static int excess(Net net, int cut) {
            return callOf(net, cut) - wallOf(net, cut);
        }

        /**
         * The least cut that bars most; 0 if none bars. A cut and the posts outside it have the same
         * excess, and the lesser of the two is without the last post: the others needn't be looked at.
         */
        static int worst(Net net) {
            int best = 0;
            int most = 0;
            for (int cut = 1; cut < 1 << (net.posts - 1); cut++) {
                int excess = excess(net, cut);
                if (excess > most) {
                    most = excess;
                    best = cut;
                }
            }
            return best;
        }

        /** The least cut whose wall is MOST of a load. */
        static int meeting(Net net, int load) {
            int best = 1 << net.from[load];
            int least = wallOf(net, best);
            for (int cut = best + 1; cut < 1 << net.posts; cut++) {
                if ((cut >> net.from[load] & 1) == 0 || (cut >> net.to[load] & 1) != 0) {
                    continue;
                }
                int wall = wallOf(net, cut);
                if (wall < least) {
                    least = wall;
                    best = cut;
                }
            }
            return best;
        }
    }

    /** The search for one way for each load, whole, of the least cost. */
    private static final class Choice {
        private static final int NO_COST = 1000000000;

        int bestCost = NO_COST;
        final int[] best = new int[MOST_LOADS];
        private final int[] chosen = new int[MOST_LOADS];
        private final int[] first = new int[MOST_LOADS];
        private final int[] last = new int[MOST_LOADS];
        private final int[] cost = new int[MOST_LOADS * MOST_WAYS];
        /** What the loads from each one on cost at least, were there room for all. */
        private final int[] leastFrom = new int[MOST_LOADS + 1];
        private final int[] left = new int[MOST_ROADS];

        /** Whether there is such a choice; best and bestCost tell it then. */
        boolean search(Net net, Ways ways, Sending sending) {
            bestCost = NO_COST;
            System.arraycopy(net.room, 0, left, 0, MOST_ROADS);
            for (int load = 0; load < net.loadCount; load++) {
                boolean isHeld = net.kind[load] == HELD;
                first[load] = isHeld ? sending.held[load] : 0;
                last[load] = isHeld ? sending.held[load] : ways.count[load] - 1;
                if (!ways.has(load, last[load])) {
                    return false;
                }
            }
            weigh(net, ways);
            choose(this, net, ways, 0, 0);
            return bestCost < NO_COST;
        }

        private void weigh(Net net, Ways ways) {
            leastFrom[net.loadCount] = 0;
            for (int load = net.loadCount - 1; load >= 0; load--) {
                int least = NO_COST;
                for (int i = first[load]; i <= last[load]; i++) {
                    cost[slot(load, i)] = net.size[load] * ways.pricesOf(net, slot(load, i));
                    least = Math.min(least, cost[slot(load, i)]);
                }
                leastFrom[load] = leastFrom[load + 1] + least;
            }
        }

        /** The lesser ways are tried first, so of several choices of one cost the first found stays. */
        private static void choose(Choice c, Net net, Ways ways, int load, int spent) {
            if (load >= net.loadCount || load >= MOST_LOADS) {
                c.bestCost = spent;
                System.arraycopy(c.chosen, 0, c.best, 0, MOST_LOADS);
                return;
            }
            for (int i = c.first[load]; i <= c.last[load]; i++) {
                int slot = slot(load, i);
                int then = spent + c.cost[slot];
                if (then + c.leastFrom[load + 1] >= c.bestCost || !c.hasRoom(ways, slot, net.size[load])) {
                    continue;
                }
                c.chosen[load] = i;
                c.take(ways, slot, net.size[load]);
                choose(c, net, ways, load + 1, then);
                c.take(ways, slot, -net.size[load]);
            }
        }

        private boolean hasRoom(Ways ways, int slot, int size) {
            for (int k = 0; k < ways.steps[slot]; k++) {
                if (left[ways.step(slot, k)] < size) {
                    return false;
                }
            }
            return true;
        }

        private void take(Ways ways, int slot, int size) {
            for (int k = 0; k < ways.steps[slot]; k++) {
                left[ways.step(slot, k)] -= size;
            }
        }
    }

    /**
     * Shares raised together, each told as so many sixtieths. That is exact: a road that is full
     * stops all the shares rising on it, c of them, at a height whose lower number is c times what those
     * stopped earlier bring. The c's of roads that fill one after the other are 5 together at most,
     * so their product is 1, 2, 3, 4, 5 or 6, and each of these goes into 60.
     */
    private static final class Shares {
        private static final int WHOLE = 60;

        private final int[] share = new int[MOST_LOADS];
        /** The roads of the way of each load, as a set. */
        private final int[] mask = new int[MOST_LOADS];
        private final boolean[] rises = new boolean[MOST_LOADS];

        void raise(Net net, Ways ways, Sending sending) {
            for (int load = 0; load < net.loadCount; load++) {
                share[load] = 0;
                rises[load] = ways.count[load] > 0;
                mask[load] = rises[load] ? ways.mask[slot(load, wayOf(net, sending, load))] : 0;
            }
            // At least one share stops in each round.
            for (int round = 0; round < net.loadCount; round++) {
                lift(net, nextHeight(net));
                stop(net);
            }
        }

        /** Of a load that has ways. */
        private static int wayOf(Net net, Sending sending, int load) {
            return net.kind[load] == HELD ? sending.held[load] : Math.max(0, sending.firstPart(load));
        }

        /** How high the rising shares come before one of them stops. */
        private int nextHeight(Net net) {
            int height = MOST_SIZE * WHOLE;
            for (int load = 0; load < net.loadCount; load++) {
                if (rises[load]) {
                    height = Math.min(height, net.size[load] * WHOLE);
                }
            }
            for (int road = 0; road < net.roadCount; road++) {
                int rising = risingOn(net, road);
                if (rising > 0) {
                    int free = net.room[road] * WHOLE - stoppedOn(net, road);
                    height = Math.min(height, free / rising);
                }
            }
            return height;
        }

        private boolean goesOver(int load, int road) {
            return (mask[load] >> road & 1) != 0;
        }

        private int risingOn(Net net, int road) {
            int many = 0;
            for (int load = 0; load < net.loadCount; load++) {
                if (rises[load] && goesOver(load, road)) {
                    many++;
                }
            }
            return many;
        }

        private int stoppedOn(Net net, int road) {
            int sum = 0;
            for (int load = 0; load < net.loadCount; load++) {
                if (!rises[load] && goesOver(load, road)) {
                    sum += share[load];
                }
            }
            return sum;
        }

        private void lift(Net net, int height) {
            for (int load = 0; load < net.loadCount; load++) {
                if (rises[load]) {
                    share[load] = height;
                }
            }
        }

        private void stop(Net net) {
            for (int road = 0; road < net.roadCount; road++) {
                if (isFull(net, road)) {
                    stopOn(net, road);
                }
            }
            for (int load = 0; load < net.loadCount; load++) {
                if (share[load] == net.size[load] * WHOLE) {
                    rises[load] = false;
                }
            }
        }

        private boolean isFull(Net net, int road) {
            int sum = 0;
            for (int load = 0; load < net.loadCount; load++) {
                if (goesOver(load, road)) {
                    sum += share[load];
                }
            }
            return sum == net.room[road] * WHOLE;
        }

        private void stopOn(Net net, int road) {
            for (int load = 0; load < net.loadCount; load++) {
                if (goesOver(load, road)) {
                    rises[load] = false;
                }
            }
        }

        int above(int load) {
            return share[load] * below(load) / WHOLE;
        }

        /** The least number that makes the share whole. */
        int below(int load) {
            for (int number = 1; number < WHOLE; number++) {
                if (share[load] * number % WHOLE == 0) {
                    return number;
                }
            }
            return WHOLE;
        }

        int countWhole(Net net) {
            int many = 0;
            for (int load = 0; load < net.loadCount; load++) {
                if (share[load] == net.size[load] * WHOLE) {
                    many++;
                }
            }
            return many;
        }
    }
}
