import com.sun.management.ThreadMXBean;
import java.lang.management.ManagementFactory;

/** All calls of a run live in one room: the rows are made with the object, and no call makes more. */
public final class RoomTest {
    /** An object with all its rows: so many bytes at most. */
    private static final long MOST_BYTES = 20000;

    private static final Checks checks = new Checks();
    private static final ThreadMXBean bean = (ThreadMXBean) ManagementFactory.getThreadMXBean();

    public static void main(String[] args) {
        bean.getCurrentThreadAllocatedBytes();
        allCalls(new LoadYard());
        long before = bean.getCurrentThreadAllocatedBytes();
        LoadYard x = new LoadYard();
        long made = bean.getCurrentThreadAllocatedBytes();
        allCalls(x);
        long after = bean.getCurrentThreadAllocatedBytes();
        checks.due("a new object of " + (made - before) + " bytes is small", made - before <= MOST_BYTES ? 1 : 0, 1);
        checks.due("bytes made by calls", after - made, 0);
        checks.finish();
    }

    private static void allCalls(LoadYard x) {
        x.net(9);
        for (int r = 0; r < 20; r++) {
            x.road(r % 9, (r + 1 + r / 9) % 9, 10 + r, r);
        }
        for (int l = 0; l < 5; l++) {
            x.load(l % 3, l, 8 - l / 2, 3 + l);
        }
        x.keep();
        for (int round = 0; round < 4; round++) {
            x.back();
            askAll(x, round);
        }
    }

    private static void askAll(LoadYard x, int at) {
        x.room(at, 50);
        x.resize(at, 9);
        x.hold(2, at);
        for (int what = -1; what <= 10; what++) {
            x.of(at, what);
            x.told(at, what);
            x.many(what);
        }
        x.is(at, 1);
        x.roads(at, 0);
        x.way(at, 0, 0);
        x.price(at, 0);
        x.cheap(at);
        x.send(at, 1, 4);
        x.sent(at, 1);
        for (int load = -1; load <= 5; load++) {
            x.fill(load);
        }
        x.over();
        x.ones();
        x.empty(at);
        x.empty(-1);
        x.wall(5);
        x.call(5);
        x.bars();
        x.barring();
        x.meets(at);
        x.measure(at, 3);
        x.barred();
        x.share(at, 0);
        x.share(at, 1);
        x.whole();
        x.send(0, 0, 100);
        x.buy();
    }
}
