import java.math.BigInteger;
import java.util.ArrayList;
import java.util.Comparator;
import java.util.List;

/**
 * The document once more, as slow and plain as can be, to hold LoadYard against: all ways are listed and
 * sorted, all choices and all cuts are gone through, MOST is found by a flow, shares are true fractions.
 */
final class PlainYard {
    private static final int NUMBER = -1;
    private static final int FULL = -2;
    private static final int KIND = -3;
    private static final int NONE = -4;
    private static final int STATE = -5;

    static final class Road {
        int p;
        int q;
        int room;
        int price;
        int length = 1;

        Road copy() {
            Road r = new Road();
            r.p = p;
            r.q = q;
            r.room = room;
            r.price = price;
            r.length = length;
            return r;
        }
    }

    static final class Load {
        int kind;
        int from;
        int to;
        int size;
        int held;
        int[] amount = new int[8];
        /** All ways, not the first 8 alone; null when they have to be listed anew. */
        List<List<Integer>> all;

        Load copy() {
            Load l = new Load();
            l.kind = kind;
            l.from = from;
            l.to = to;
            l.size = size;
            l.held = held;
            l.amount = amount.clone();
            l.all = all;
            return l;
        }
    }

    static final class Fraction implements Comparable<Fraction> {
        final BigInteger above;
        final BigInteger below;

        Fraction(BigInteger a, BigInteger b) {
            BigInteger g = a.gcd(b);
            above = a.divide(g);
            below = b.divide(g);
        }

        static Fraction of(long n) {
            return new Fraction(BigInteger.valueOf(n), BigInteger.ONE);
        }

        Fraction plus(Fraction o) {
            return new Fraction(above.multiply(o.below).add(o.above.multiply(below)), below.multiply(o.below));
        }

        Fraction minus(Fraction o) {
            return new Fraction(above.multiply(o.below).subtract(o.above.multiply(below)), below.multiply(o.below));
        }

        Fraction over(long n) {
            return new Fraction(above, below.multiply(BigInteger.valueOf(n)));
        }

        @Override
        public int compareTo(Fraction o) {
            return above.multiply(o.below).compareTo(o.above.multiply(below));
        }
    }

    private int n = 1;
    private List<Road> roads = new ArrayList<>();
    private List<Load> loads = new ArrayList<>();
    private int keptN = 0;
    private List<Road> keptRoads;
    private List<Load> keptLoads;

    private boolean noLoad(int load) {
        return load < 0 || load >= loads.size();
    }

    private boolean noRoad(int road) {
        return road < 0 || road >= roads.size();
    }

    private boolean noPost(int p) {
        return p < 0 || p >= n;
    }

    int net(int posts) {
        if (posts < 1 || posts > 9) return NUMBER;
        n = posts;
        roads = new ArrayList<>();
        loads = new ArrayList<>();
        return n;
    }

    int road(int p, int q, int room, int price) {
        if (noPost(p) || noPost(q) || p == q || room < 0 || room > 100 || price < 0 || price > 50) return NUMBER;
        if (roads.size() == 20) return FULL;
        Road r = new Road();
        r.p = p;
        r.q = q;
        r.room = room;
        r.price = price;
        roads.add(r);
        for (Load l : loads) {
            l.all = null;
            l.amount = new int[8];
            l.held = 0;
        }
        return roads.size() - 1;
    }

    int room(int road, int room) {
        if (noRoad(road) || room < 0 || room > 100) return NUMBER;
        int was = roads.get(road).room;
        roads.get(road).room = room;
        return was;
    }

    int of(int road, int what) {
        if (noRoad(road) || what < 0 || what > 6) return NUMBER;
        Road r = roads.get(road);
        int used = used(road);
        return new int[] {Math.min(r.p, r.q), Math.max(r.p, r.q), r.room, r.price, used,
            used > r.room ? used - r.room : 0, r.length}[what];
    }

    int load(int kind, int from, int to, int size) {
        if (noPost(from) || noPost(to) || from == to || kind < 0 || kind > 2 || size < 1 || size > 100) return NUMBER;
        if (loads.size() == 5) return FULL;
        Load l = new Load();
        l.kind = kind;
        l.from = from;
        l.to = to;
        l.size = size;
        loads.add(l);
        return loads.size() - 1;
    }

    int resize(int load, int size) {
        if (noLoad(load) || size < 1 || size > 100) return NUMBER;
        int was = loads.get(load).size;
        loads.get(load).size = size;
        return was;
    }

    int hold(int load, int i) {
        if (noLoad(load)) return NUMBER;
        Load l = loads.get(load);
        if (l.kind != 2) return KIND;
        if (noWay(l, i)) return NONE;
        int was = l.held;
        l.held = i;
        return was;
    }

    int told(int load, int what) {
        if (noLoad(load)) return NUMBER;
        Load l = loads.get(load);
        switch (what) {
            case 0: return l.kind;
            case 1: return l.from;
            case 2: return l.to;
            case 3: return l.size;
            case 4: return ways(l).size();
            case 5: return sentOf(l);
            case 6: return flow(l.from, l.to);
            case 7: return far(l);
            case 8: return l.kind == 2 ? l.held : -1;
            case 9: return notZero(l);
            default: return NUMBER;
        }
    }

    int is(int load, int kind) {
        if (noLoad(load) || kind < 0 || kind > 2) return NUMBER;
        int k = loads.get(load).kind;
        boolean yes = kind == 0 || kind == 1 && (k == 1 || k == 2) || kind == 2 && k == 2;
        return yes ? 1 : 0;
    }

    int roads(int load, int i) {
        if (noLoad(load)) return NUMBER;
        if (noWay(loads.get(load), i)) return NONE;
        return ways(loads.get(load)).get(i).size();
    }

    int way(int load, int i, int k) {
        if (noLoad(load)) return NUMBER;
        if (noWay(loads.get(load), i)) return NONE;
        List<Integer> w = ways(loads.get(load)).get(i);
        return k < 0 || k >= w.size() ? NONE : w.get(k);
    }

    int price(int load, int i) {
        if (noLoad(load)) return NUMBER;
        if (noWay(loads.get(load), i)) return NONE;
        return prices(ways(loads.get(load)).get(i));
    }

    int cheap(int load) {
        if (noLoad(load)) return NUMBER;
        int best = NONE;
        List<List<Integer>> ways = ways(loads.get(load));
        for (int i = ways.size() - 1; i >= 0; i--) {
            if (best < 0 || prices(ways.get(i)) <= prices(ways.get(best))) best = i;
        }
        return best;
    }

    int send(int load, int i, int amount) {
        if (noLoad(load) || amount < 0 || amount > 100) return NUMBER;
        Load l = loads.get(load);
        if (noWay(l, i)) return NONE;
        int was = l.amount[i];
        l.amount[i] = amount;
        return was;
    }

    int sent(int load, int i) {
        if (noLoad(load)) return NUMBER;
        return noWay(loads.get(load), i) ? NONE : loads.get(load).amount[i];
    }

    int fill(int load) {
        if (noLoad(load)) return NUMBER;
        Load l = loads.get(load);
        int before = sentOf(l);
        if (before >= l.size) return 0;
        List<List<Integer>> ways = ways(l);
        if (l.kind == 1) {
            if (notZero(l) > 0) return 0;
            for (int i = 0; i < ways.size(); i++) {
                if (free(ways.get(i)) >= l.size) {
                    l.amount[i] = l.size;
                    break;
                }
            }
            return sentOf(l);
        }
        // One by one, so that nothing is taken from FREE but what it is.
        for (int i = 0; i < ways.size(); i++) {
            if (l.kind == 2 && i != l.held) continue;
            while (sentOf(l) < l.size && free(ways.get(i)) > 0) l.amount[i]++;
        }
        return sentOf(l) - before;
    }

    int empty(int load) {
        if (load != -1 && noLoad(load)) return NUMBER;
        int was = 0;
        for (int j = 0; j < loads.size(); j++) {
            if (load == -1 || load == j) {
                was += sentOf(loads.get(j));
                loads.get(j).amount = new int[8];
            }
        }
        return was;
    }

    int many(int what) {
        int roadsOver = 0;
        int over = 0;
        for (int r = 0; r < roads.size(); r++) {
            if (of(r, 5) > 0) roadsOver++;
            over += of(r, 5);
        }
        int sent = 0;
        int sizes = 0;
        for (Load l : loads) {
            sent += sentOf(l);
            sizes += l.size;
        }
        switch (what) {
            case 0: return n;
            case 1: return roads.size();
            case 2: return loads.size();
            case 3: return roadsOver;
            case 4: return over;
            case 5: return cost();
            case 6: return roadsOver == 0 && allSentRight() ? 1 : 0;
            case 7: return sent;
            case 8: return sizes;
            default: return NUMBER;
        }
    }

    int over() {
        for (int r = 0; r < roads.size(); r++) {
            if (of(r, 5) > 0) return r;
        }
        return NONE;
    }

    int ones() {
        if (loads.isEmpty()) return NONE;
        int[] choice = new int[loads.size()];
        int[] best = null;
        int bestCost = 0;
        int[][] masks = new int[loads.size()][];
        for (int j = 0; j < choice.length; j++) {
            masks[j] = ways(loads.get(j)).stream().mapToInt(PlainYard::mask).toArray();
        }
        // Counts through all choices, the last load's way turning fastest: that is their order.
        while (true) {
            int cost = costOfChoice(choice, masks);
            if (cost >= 0 && (best == null || cost < bestCost)) {
                best = choice.clone();
                bestCost = cost;
            }
            int j = choice.length - 1;
            while (j >= 0 && ++choice[j] >= masks[j].length) choice[j--] = 0;
            if (j < 0) break;
        }
        if (best == null) return NONE;
        for (int j = 0; j < best.length; j++) {
            loads.get(j).amount = new int[8];
            loads.get(j).amount[best[j]] = loads.get(j).size;
        }
        return bestCost;
    }

    private static int mask(List<Integer> way) {
        int m = 0;
        for (int r : way) m |= 1 << r;
        return m;
    }

    /** -1 if it is none that may be. */
    private int costOfChoice(int[] choice, int[][] masks) {
        int cost = 0;
        int[] used = new int[roads.size()];
        for (int j = 0; j < choice.length; j++) {
            Load l = loads.get(j);
            if (choice[j] >= masks[j].length || l.kind == 2 && choice[j] != l.held) return -1;
            for (int r = 0; r < used.length; r++) {
                if ((masks[j][choice[j]] >> r & 1) == 0) continue;
                used[r] += l.size;
                cost += l.size * roads.get(r).price;
            }
        }
        for (int r = 0; r < used.length; r++) {
            if (used[r] > roads.get(r).room) return -1;
        }
        return cost;
    }

    int wall(int cut) {
        if (cut <= 0 || cut >= (1 << n) - 1) return NUMBER;
        int sum = 0;
        for (Road r : roads) {
            boolean p = (cut & 1 << r.p) != 0;
            boolean q = (cut & 1 << r.q) != 0;
            if (p != q) sum += r.room;
        }
        return sum;
    }

    int call(int cut) {
        if (cut <= 0 || cut >= (1 << n) - 1) return NUMBER;
        int sum = 0;
        for (Load l : loads) {
            boolean p = (cut & 1 << l.from) != 0;
            boolean q = (cut & 1 << l.to) != 0;
            if (p != q) sum += l.size;
        }
        return sum;
    }

    int bars() {
        int most = 0;
        for (int cut = 1; cut < (1 << n) - 1; cut++) most = Math.max(most, call(cut) - wall(cut));
        return most;
    }

    int barring() {
        int most = bars();
        if (most == 0) return NONE;
        for (int cut = 1; cut < (1 << n) - 1; cut++) {
            if (call(cut) - wall(cut) == most) return cut;
        }
        return NONE;
    }

    int meets(int load) {
        if (noLoad(load)) return NUMBER;
        Load l = loads.get(load);
        int most = flow(l.from, l.to);
        for (int cut = 1; cut < (1 << n) - 1; cut++) {
            if ((cut & 1 << l.from) != 0 && (cut & 1 << l.to) == 0 && wall(cut) == most) return cut;
        }
        return NONE;
    }

    int measure(int road, int length) {
        if (noRoad(road) || length < 0 || length > 20) return NUMBER;
        int was = roads.get(road).length;
        roads.get(road).length = length;
        return was;
    }

    int barred() {
        int sum = 0;
        for (Load l : loads) {
            if (far(l) < 0) return -2;
            sum += l.size * far(l);
        }
        for (Road r : roads) sum -= r.room * r.length;
        return Math.max(sum, 0);
    }

    int share(int load, int what) {
        if (noLoad(load) || what < 0 || what > 1) return NUMBER;
        Fraction f = shares().get(load);
        return (what == 0 ? f.above : f.below).intValueExact();
    }

    int whole() {
        int many = 0;
        List<Fraction> shares = shares();
        for (int j = 0; j < loads.size(); j++) {
            if (shares.get(j).compareTo(Fraction.of(loads.get(j).size)) == 0) many++;
        }
        return many;
    }

    int buy() {
        int sum = 0;
        for (int r = 0; r < roads.size(); r++) {
            if (roads.get(r).room + of(r, 5) > 100) return STATE;
        }
        for (int r = 0; r < roads.size(); r++) {
            int more = of(r, 5);
            roads.get(r).room += more;
            sum += more;
        }
        return sum;
    }

    int keep() {
        keptN = n;
        keptRoads = copyRoads(roads);
        keptLoads = copyLoads(loads);
        return 1;
    }

    int back() {
        if (keptN == 0) return STATE;
        n = keptN;
        roads = copyRoads(keptRoads);
        loads = copyLoads(keptLoads);
        return 1;
    }

    private static List<Road> copyRoads(List<Road> rows) {
        List<Road> copy = new ArrayList<>();
        for (Road r : rows) copy.add(r.copy());
        return copy;
    }

    private static List<Load> copyLoads(List<Load> rows) {
        List<Load> copy = new ArrayList<>();
        for (Load l : rows) copy.add(l.copy());
        return copy;
    }

    private List<List<Integer>> allWays(Load l) {
        if (l.all == null) {
            l.all = new ArrayList<>();
            walk(l, l.from, 1 << l.from, new ArrayList<>());
            Comparator<List<Integer>> order = Comparator.comparingInt(List::size);
            l.all.sort(order.thenComparing(PlainYard::compareRoads));
        }
        return l.all;
    }

    private static int compareRoads(List<Integer> a, List<Integer> b) {
        for (int k = 0; k < a.size(); k++) {
            int c = Integer.compare(a.get(k), b.get(k));
            if (c != 0) return c;
        }
        return 0;
    }

    private void walk(Load l, int at, int seen, List<Integer> trail) {
        if (at == l.to) {
            l.all.add(new ArrayList<>(trail));
            return;
        }
        for (int r = roads.size() - 1; r >= 0; r--) {
            Road road = roads.get(r);
            int next = road.p == at ? road.q : road.q == at ? road.p : -1;
            if (next < 0 || (seen & 1 << next) != 0) continue;
            trail.add(r);
            walk(l, next, seen | 1 << next, trail);
            trail.remove(trail.size() - 1);
        }
    }

    private List<List<Integer>> ways(Load l) {
        List<List<Integer>> all = allWays(l);
        return all.subList(0, Math.min(8, all.size()));
    }

    private boolean noWay(Load l, int i) {
        return i < 0 || i >= ways(l).size();
    }

    private int prices(List<Integer> way) {
        int sum = 0;
        for (int r : way) sum += roads.get(r).price;
        return sum;
    }

    private int free(List<Integer> way) {
        int least = Integer.MAX_VALUE;
        for (int r : way) least = Math.min(least, roads.get(r).room - used(r));
        return Math.max(least, 0);
    }

    private int used(int road) {
        int sum = 0;
        for (Load l : loads) {
            List<List<Integer>> ways = ways(l);
            for (int i = 0; i < ways.size(); i++) {
                if (ways.get(i).contains(road)) sum += l.amount[i];
            }
        }
        return sum;
    }

    private int cost() {
        int sum = 0;
        for (Load l : loads) {
            List<List<Integer>> ways = ways(l);
            for (int i = 0; i < ways.size(); i++) sum += l.amount[i] * prices(ways.get(i));
        }
        return sum;
    }

    private boolean allSentRight() {
        for (Load l : loads) {
            if (sentOf(l) != l.size) return false;
            if (l.kind >= 1 && notZero(l) != 1) return false;
            if (l.kind == 2 && l.amount[l.held] == 0) return false;
        }
        return true;
    }

    private static int sentOf(Load l) {
        int sum = 0;
        for (int a : l.amount) sum += a;
        return sum;
    }

    private static int notZero(Load l) {
        int many = 0;
        for (int a : l.amount) many += a != 0 ? 1 : 0;
        return many;
    }

    private int far(Load l) {
        int least = -1;
        for (List<Integer> way : allWays(l)) {
            int sum = 0;
            for (int r : way) sum += roads.get(r).length;
            if (least < 0 || sum < least) least = sum;
        }
        return least;
    }

    /** The greatest flow of two posts, which is the least wall between them. */
    private int flow(int from, int to) {
        int[][] free = new int[n][n];
        for (Road r : roads) {
            free[r.p][r.q] += r.room;
            free[r.q][r.p] += r.room;
        }
        int flow = 0;
        while (push(free, from, to, new boolean[n])) flow++;
        return flow;
    }

    private static boolean push(int[][] free, int at, int to, boolean[] seen) {
        if (at == to) return true;
        seen[at] = true;
        for (int next = 0; next < free.length; next++) {
            if (!seen[next] && free[at][next] > 0 && push(free, next, to, seen)) {
                free[at][next]--;
                free[next][at]++;
                return true;
            }
        }
        return false;
    }

    private List<Integer> sharedWay(Load l) {
        List<List<Integer>> ways = ways(l);
        if (ways.isEmpty()) return null;
        if (l.kind == 2) return ways.get(l.held);
        for (int i = 0; i < ways.size(); i++) {
            if (l.amount[i] != 0) return ways.get(i);
        }
        return ways.get(0);
    }

    private List<Fraction> shares() {
        List<Fraction> shares = new ArrayList<>();
        List<List<Integer>> on = new ArrayList<>();
        for (Load l : loads) {
            shares.add(Fraction.of(0));
            on.add(sharedWay(l));
        }
        while (true) {
            List<Integer> rising = new ArrayList<>();
            for (int j = 0; j < loads.size(); j++) {
                if (rises(j, shares, on)) rising.add(j);
            }
            if (rising.isEmpty()) return shares;
            Fraction more = moreFor(rising, shares, on);
            for (int j : rising) shares.set(j, shares.get(j).plus(more));
        }
    }

    private boolean rises(int j, List<Fraction> shares, List<List<Integer>> on) {
        if (on.get(j) == null) return false;
        if (shares.get(j).compareTo(Fraction.of(loads.get(j).size)) >= 0) return false;
        for (int r : on.get(j)) {
            if (leftOn(r, shares, on).above.signum() <= 0) return false;
        }
        return true;
    }

    private Fraction leftOn(int r, List<Fraction> shares, List<List<Integer>> on) {
        Fraction left = Fraction.of(roads.get(r).room);
        for (int j = 0; j < shares.size(); j++) {
            if (on.get(j) != null && on.get(j).contains(r)) left = left.minus(shares.get(j));
        }
        return left;
    }

    private Fraction moreFor(List<Integer> rising, List<Fraction> shares, List<List<Integer>> on) {
        Fraction more = Fraction.of(1000);
        for (int j : rising) {
            Fraction toSize = Fraction.of(loads.get(j).size).minus(shares.get(j));
            if (toSize.compareTo(more) < 0) more = toSize;
        }
        for (int r = 0; r < roads.size(); r++) {
            int many = 0;
            for (int j : rising) many += on.get(j).contains(r) ? 1 : 0;
            if (many == 0) continue;
            Fraction each = leftOn(r, shares, on).over(many);
            if (each.compareTo(more) < 0) more = each;
        }
        return more;
    }
}
