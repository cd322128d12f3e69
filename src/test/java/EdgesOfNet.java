import java.util.function.Supplier;

/** Promises 1 to 5: a new object, the net and its roads. */
final class EdgesOfNet extends Edges {
    EdgesOfNet(Checks checks, Document document) {
        super(checks, document);
    }

    @Override
    void run() {
        newObject();
        newObjectRefuses();
        net();
        netRefuses();
        road();
        roadRefuses();
        roadFull();
        room();
        roomRefuses();
        of();
        ofRefuses();
    }

    private static final String NEW = "A NET of one POST; no ROADS, LOADS; nothing is kept.";

    private void newObject() {
        sentence(1, NEW);
        int[] many = {1, 0, 0, 0, 0, 0, 1, 0, 0};
        for (int what = 0; what < many.length; what++) {
            leaves(many[what], Yard::new, "many", what);
        }
        leaves(0, Yard::new, "bars");
        leaves(0, Yard::new, "barred");
        leaves(0, Yard::new, "whole");
        leaves(0, Yard::new, "buy");
        leaves(0, Yard::new, "empty", -1);
        refuses(STATE, Yard::new, "back");
        refuses(NONE, Yard::new, "over");
        refuses(NONE, Yard::new, "ones");
        refuses(NONE, Yard::new, "barring");
        Yards.full();
        due(STATE, new Yard(), "back");
        due(0, new Yard(), "many", 1);
        due(1, new Yard(), "keep");
        due(2, new Yard(), "net", 2);
    }

    private void newObjectRefuses() {
        sentence(1, NEW);
        for (int at : new int[] {0, -1, LOW, HIGH}) {
            refuses(NUMBER, Yard::new, "road", 0, at, 1, 1);
            refuses(NUMBER, Yard::new, "load", 0, 0, at, 1);
            refuses(NUMBER, Yard::new, "room", at, 1);
            refuses(NUMBER, Yard::new, "of", at, 0);
            refuses(NUMBER, Yard::new, "resize", at, 1);
            refuses(NUMBER, Yard::new, "hold", at, 0);
            refuses(NUMBER, Yard::new, "told", at, 0);
            refuses(NUMBER, Yard::new, "is", at, 0);
            refuses(NUMBER, Yard::new, "roads", at, 0);
            refuses(NUMBER, Yard::new, "way", at, 0, 0);
            refuses(NUMBER, Yard::new, "price", at, 0);
            refuses(NUMBER, Yard::new, "cheap", at);
            refuses(NUMBER, Yard::new, "send", at, 0, 1);
            refuses(NUMBER, Yard::new, "sent", at, 0);
            refuses(NUMBER, Yard::new, "fill", at);
            refuses(NUMBER, Yard::new, "wall", at);
            refuses(NUMBER, Yard::new, "call", at);
            refuses(NUMBER, Yard::new, "meets", at);
            refuses(NUMBER, Yard::new, "measure", at, 1);
            refuses(NUMBER, Yard::new, "share", at, 0);
        }
        for (int at : new int[] {0, -2, LOW, HIGH}) {
            refuses(NUMBER, Yard::new, "empty", at);
        }
    }

    private static Yard twoRoads(Yard x) {
        return x.with("road", 1, 0, 7, 3).with("road", 0, 1, 8, 4).with("load", 2, 0, 1, 5).with("load", 0, 1, 0, 6);
    }

    private static Yard twoLoads(Yard x) {
        return x.with("load", 2, 0, 1, 5).with("load", 0, 1, 0, 6);
    }

    private void net() {
        sentence(2, "A new NET of n POSTS, without ROADS, LOADS: n.");
        for (int n = 1; n <= 9; n++) {
            int posts = n;
            due(n, new Yard(), "net", n);
            due(n, Yards.full(), "net", n);
            sameNow("a net behind a full one", () -> Yards.full().with("net", posts), () -> Yards.bare(posts));
            sameKept("a net leaves", () -> Yards.full().with("net", posts), Yards::full);
            if (n > 1) {
                sameNow("a net behind a busy one", () -> twoRoads(Yards.busy().with("net", posts)),
                    () -> twoRoads(Yards.bare(posts)));
                sameNow("loads alone behind a full one", () -> twoLoads(Yards.full().with("net", posts)),
                    () -> twoLoads(Yards.bare(posts)));
            }
        }
        Yard again = Yards.full().with("net", 9);
        for (int r = 0; r < 20; r++) {
            due(r, again, "road", 0, 8, 1, 1);
        }
        for (int load = 0; load < 5; load++) {
            due(load, again, "load", 2, 0, 8, 1);
        }
        due(FULL, again, "road", 0, 8, 1, 1);
        due(FULL, again, "load", 2, 0, 8, 1);
    }

    private void netRefuses() {
        sentence(2, "NUMBER: n isn't 1 to 9.");
        range(NUMBER, Yard::new, 0, 1, 9, "net", 0);
        range(NUMBER, Yards::busy, 0, 1, 9, "net", 0);
        range(NUMBER, Yards::full, 0, 1, 9, "net", 0);
    }

    private void road() {
        sentence(3, "A ROAD comes: its number.");
        Yard x = Yards.bare(9);
        for (int r = 0; r < 20; r++) {
            due(r, x, "road", r % 2 == 0 ? 0 : 8, r % 2 == 0 ? 8 : 0, 5 * r, 2 * r);
            due(r + 1, x, "many", 1);
        }
        for (int r = 0; r < 20; r++) {
            int[] want = {0, 8, 5 * r, 2 * r, 0, 0, 1};
            for (int what = 0; what < want.length; what++) {
                due(want[what], x, "of", r, what);
            }
        }
        due(0, Yards.bare(2), "road", 1, 0, 0, 0);
        due(0, Yards.bare(2), "road", 0, 1, 100, 50);
        sameKept("a road that comes leaves", () -> Yards.busy().with("road", 0, 3, 1, 1), Yards::busy);
    }

    private static final String ROAD = "NUMBER: one is no POST, they are the same, room isn't 0 to 100,"
        + " or price not 0 to 50; FULL.";

    private void roadRefuses() {
        sentence(3, ROAD);
        range(NUMBER, Yards::busy, 0, 0, 3, "road", 0, 1, 5, 5);
        range(NUMBER, Yards::busy, 1, 0, 3, "road", 1, 0, 5, 5);
        range(NUMBER, Yards::busy, 2, 0, 100, "road", 0, 1, 0, 5);
        range(NUMBER, Yards::busy, 3, 0, 50, "road", 0, 1, 5, 0);
        for (int p = -1; p <= 4; p++) {
            refuses(NUMBER, Yards::busy, "road", p, p, 5, 5);
        }
        refuses(NUMBER, Yards::busy, "road", LOW, HIGH, LOW, HIGH);
        refuses(NUMBER, Yards::busy, "road", HIGH, HIGH, 101, 51);
    }

    private void roadFull() {
        sentence(3, ROAD);
        Supplier<Yard> nineteen = () -> Yards.parallel(19);
        due(19, nineteen.get(), "road", 0, 1, 0, 0);
        refuses(FULL, () -> Yards.parallel(20), "road", 0, 1, 0, 0);
        refuses(FULL, Yards::full, "road", 0, 8, 0, 0);
        refuses(FULL, Yards::full, "road", 8, 0, 100, 50);
        refusesBeyond(NUMBER, Yards::full, 0, 0, 8, "road", 0, 1, 5, 5);
        refusesBeyond(NUMBER, Yards::full, 1, 0, 8, "road", 0, 1, 5, 5);
        refusesBeyond(NUMBER, Yards::full, 2, 0, 100, "road", 0, 1, 5, 5);
        refusesBeyond(NUMBER, Yards::full, 3, 0, 50, "road", 0, 1, 5, 5);
        refuses(NUMBER, Yards::full, "road", 4, 4, 5, 5);
        Yard freed = Yards.full().with("net", 2);
        due(0, freed, "road", 0, 1, 0, 0);
        freed.with("back");
        due(FULL, freed, "road", 0, 1, 0, 0);
    }

    private void room() {
        sentence(4, "The ROOM of a ROAD becomes another one: what it was.");
        for (int road : new int[] {0, 19}) {
            Yard x = Yards.parallel(20);
            due(10, x, "room", road, 100);
            due(100, x, "room", road, 0);
            due(0, x, "room", road, 0);
            due(0, x, "room", road, 1);
            for (int r = 0; r < 20; r++) {
                due(r == road ? 1 : 10, x, "of", r, 2);
            }
        }
        sameNow("there and back,", () -> Yards.full().with("room", 7, 1).with("room", 7, 35), Yards::full);
        sameKept("a room leaves", () -> Yards.full().with("room", 7, 1), Yards::full);
    }

    private void roomRefuses() {
        sentence(4, "NUMBER: there is no such ROAD, or it isn't 0 to 100.");
        range(NUMBER, Yards::busy, 0, 0, 4, "room", 0, 5);
        range(NUMBER, Yards::busy, 1, 0, 100, "room", 0, 0);
        range(NUMBER, Yards::full, 0, 0, 19, "room", 0, 5);
        range(NUMBER, Yards::full, 1, 0, 100, "room", 19, 0);
        refuses(NUMBER, () -> Yards.bare(9), "room", 0, 5);
        refuses(NUMBER, Yards::busy, "room", 5, 101);
    }

    private void of() {
        sentence(5, "Of a ROAD: what = 0 its lesser POST, 1 its greater POST, 2 ROOM, 3 PRICE, 4 USED,"
            + " 5 OVER (0 if it isn't), 6 LENGTH.");
        Yard x = Yards.bare(9).with("road", 8, 0, 0, 50).with("road", 0, 8, 100, 0).with("road", 8, 7, 99, 49)
            .with("load", 0, 0, 8, 1).with("load", 1, 8, 0, 1).with("measure", 0, 20).with("measure", 1, 0)
            .with("send", 0, 0, 100).with("send", 1, 0, 100).with("send", 0, 1, 100);
        int[][] want = {{0, 8, 0, 50, 200, 200, 20}, {0, 8, 100, 0, 100, 0, 0}, {7, 8, 99, 49, 0, 0, 1}};
        for (int road = 0; road < want.length; road++) {
            for (int what = 0; what <= 6; what++) {
                due(want[road][what], x, "of", road, what);
            }
        }
        x.with("send", 1, 1, 1);
        due(1, x, "of", 1, 5);
        for (int what = 0; what <= 6; what++) {
            int got = Yards.full().ask("of", 19, what);
            leaves(got, Yards::full, "of", 19, what);
        }
    }

    private void ofRefuses() {
        sentence(5, "NUMBER: there is none such, another what.");
        range(NUMBER, Yards::busy, 0, 0, 4, "of", 0, 0);
        range(NUMBER, Yards::busy, 1, 0, 6, "of", 0, 0);
        range(NUMBER, Yards::full, 0, 0, 19, "of", 0, 6);
        range(NUMBER, Yards::full, 1, 0, 6, "of", 19, 0);
        refuses(NUMBER, () -> Yards.bare(9), "of", 0, 0);
        refuses(NUMBER, Yards::busy, "of", 5, 7);
        refuses(NUMBER, Yards::busy, "of", LOW, HIGH);
    }
}
