import java.util.function.Supplier;

/** Promises 29 to 31: shares, and rooms to buy. */
final class EdgesOfShares extends Edges {
    EdgesOfShares(Checks checks, Document document) {
        super(checks, document);
    }

    @Override
    void run() {
        share();
        shareOfNothing();
        shareRefuses();
        whole();
        buy();
        buyRefuses();
    }

    private void shared(int above, int below, Supplier<Yard> made, int load) {
        leaves(above, made, "share", load, 0);
        leaves(below, made, "share", load, 1);
    }

    /** So many loads of size 100 on a road of that room. */
    private static Yard onOneRoad(int loads, int room) {
        Yard x = Yards.parallel(1).with("room", 0, room);
        for (int load = 0; load < loads; load++) {
            x.with("load", load % 3, load % 2, 1 - load % 2, 100);
        }
        return x;
    }

    private static final String SHARE = "The SHARE of a LOAD: what = 0 above, 1 below the line, cleared"
        + " (0 / 1 if it is 0).";

    private void share() {
        sentence(29, SHARE);
        shared(100, 1, () -> onOneRoad(1, 100), 0);
        shared(1, 1, () -> onOneRoad(1, 1), 0);
        shared(1, 2, () -> onOneRoad(2, 1), 1);
        shared(50, 1, () -> onOneRoad(2, 100), 0);
        shared(100, 3, () -> onOneRoad(3, 100), 2);
        shared(33, 1, () -> onOneRoad(3, 99), 0);
        shared(1, 2, () -> onOneRoad(4, 2), 3);
        shared(3, 2, () -> onOneRoad(4, 6), 0);
        shared(99, 4, () -> onOneRoad(4, 99), 1);
        shared(1, 5, () -> onOneRoad(5, 1), 4);
        shared(1, 1, () -> onOneRoad(5, 5), 0);
        shared(99, 5, () -> onOneRoad(5, 99), 2);
        // Its size, and the road is full just then.
        shared(1, 1, () -> onOneRoad(2, 2).with("resize", 0, 1), 0);
        shared(1, 1, () -> onOneRoad(2, 2).with("resize", 0, 1), 1);
        // Its size ahead of that: the others have what it leaves.
        shared(1, 1, () -> onOneRoad(5, 100).with("resize", 4, 1), 4);
        shared(99, 4, () -> onOneRoad(5, 100).with("resize", 4, 1), 0);
        shared(97, 1, () -> onOneRoad(3, 100).with("resize", 0, 1).with("resize", 1, 2), 2);
    }

    private void shareOfNothing() {
        sentence(29, SHARE);
        shared(0, 1, () -> onOneRoad(1, 0), 0);
        shared(0, 1, () -> onOneRoad(5, 0), 4);
        shared(0, 1, () -> Yards.row(9, 100, 1).with("room", 7, 0).with("load", 0, 0, 8, 1), 0);
        for (int load = 1; load <= 3; load++) {
            int l = load;
            shared(0, 1, Yards::apart, l);
        }
        // What was shared ahead of a new net, or of what is brought back, leaves nothing.
        Yard before = onOneRoad(5, 100);
        due(20, before, "share", 0, 0);
        before.with("net", 2).with("load", 0, 0, 1, 20);
        due(0, before, "whole");
        due(0, before, "share", 0, 0);
        due(1, before, "share", 0, 1);
        Yard brought = Yards.bare(2).with("load", 1, 0, 1, 10).with("keep").with("road", 0, 1, 10, 1);
        due(1, brought, "whole");
        brought.with("back");
        due(0, brought, "whole");
        due(0, brought, "share", 0, 0);
        // A load on a road without room takes nothing from one beside it.
        Supplier<Yard> beside = () -> Yards.row(3, 10, 1).with("room", 0, 0).with("load", 0, 0, 2, 100)
            .with("load", 0, 1, 2, 100);
        shared(0, 1, beside, 0);
        shared(10, 1, beside, 1);
    }

    private void shareRefuses() {
        sentence(29, "NUMBER: there is no such LOAD, another what.");
        range(NUMBER, Yards::busy, 0, 0, 2, "share", 0, 0);
        range(NUMBER, Yards::busy, 1, 0, 1, "share", 0, 0);
        range(NUMBER, Yards::full, 0, 0, 4, "share", 0, 1);
        range(NUMBER, Yards::full, 1, 0, 1, "share", 4, 0);
        refuses(NUMBER, Yards::diamond, "share", 0, 0);
        refuses(NUMBER, Yards::busy, "share", 3, 2);
        refuses(NUMBER, Yards::apart, "share", 1, 2);
        refuses(NUMBER, Yards::apart, "share", 4, 0);
    }

    private void whole() {
        sentence(30, "How many SHARES are the SIZES of their LOADS.");
        leaves(0, Yard::new, "whole");
        leaves(0, Yards::diamond, "whole");
        leaves(1, Yards::apart, "whole");
        leaves(0, () -> Yards.bare(2).with("load", 0, 0, 1, 1), "whole");
        Yard five = onOneRoad(5, 100);
        due(0, five, "whole");
        for (int load = 0; load < 5; load++) {
            five.with("resize", load, 20);
        }
        due(5, five, "whole");
        five.with("room", 0, 99);
        due(0, five, "whole");
        five.with("resize", 4, 19);
        due(5, five, "whole");
        five.with("resize", 3, 21);
        due(4, five, "whole");
        due(1, onOneRoad(1, 100), "whole");
        due(0, onOneRoad(1, 99), "whole");
        due(0, onOneRoad(1, 0).with("resize", 0, 1), "whole");
    }

    /** Two loads along one row of 8 roads. */
    private static Yard sentAlong(int room, int first, int second) {
        return Yards.row(9, room, 1).with("load", 0, 0, 8, 1).with("load", 2, 8, 0, 1).with("send", 0, 0, first)
            .with("send", 1, 0, second);
    }

    private void buy() {
        sentence(31, "ROOM is added to each ROAD that is OVER, by as much, if no ROOM is above 100 then: how much.");
        leaves(0, Yard::new, "buy");
        leaves(0, Yards::diamond, "buy");
        leaves(0, Yards::apart, "buy");
        leaves(0, () -> sentAlong(100, 100, 0), "buy");
        leaves(0, () -> sentAlong(0, 0, 0), "buy");
        int[][] want = {{0, 100, 0, 800}, {0, 99, 1, 800}, {99, 50, 50, 8}, {0, 1, 0, 8}, {10, 5, 6, 8}};
        for (int[] w : want) {
            Yard x = sentAlong(w[0], w[1], w[2]);
            due(w[3], x, "buy");
            for (int r = 0; r < 8; r++) {
                due(w[1] + w[2], x, "of", r, 2);
            }
            due(NONE, x, "over");
            due(0, x, "buy");
            due(w[1], x, "sent", 0, 0);
        }
        Yard some = sentAlong(50, 60, 0).with("room", 3, 60).with("room", 4, 100);
        due(60, some, "buy");
        int[] rooms = {60, 60, 60, 60, 100, 60, 60, 60};
        for (int r = 0; r < 8; r++) {
            due(rooms[r], some, "of", r, 2);
        }
        Yard all = EdgesOfSending.twentyRoads(0, 100);
        due(2000, all, "buy");
        for (int r = 0; r < 20; r++) {
            due(100, all, "of", r, 2);
        }
        due(20, EdgesOfSending.twentyRoads(99, 100), "buy");
        sameKept("what is bought leaves", () -> Yards.busy().with("buy"), Yards::busy);
    }

    private void buyRefuses() {
        sentence(31, "STATE: one would be.");
        refuses(STATE, () -> sentAlong(0, 100, 1), "buy");
        refuses(STATE, () -> sentAlong(100, 1, 100), "buy");
        refuses(STATE, () -> sentAlong(100, 100, 100), "buy");
        refuses(STATE, Yards::full, "buy");
        // One road alone would be above 100: the last one, or the first.
        Supplier<Yard> last = () -> Yards.row(3, 0, 1).with("load", 0, 0, 2, 1).with("load", 0, 1, 2, 1)
            .with("send", 0, 0, 50).with("send", 1, 0, 51);
        Supplier<Yard> first = () -> Yards.row(3, 0, 1).with("load", 0, 0, 2, 1).with("load", 0, 0, 1, 1)
            .with("send", 0, 0, 50).with("send", 1, 0, 51);
        refuses(STATE, last, "buy");
        refuses(STATE, first, "buy");
        due(150, last.get().with("send", 1, 0, 50), "buy");
    }
}
