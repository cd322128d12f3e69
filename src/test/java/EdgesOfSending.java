import java.util.function.Supplier;

/** Promises 15 to 20: what is sent, filled and taken back. */
final class EdgesOfSending extends Edges {
    EdgesOfSending(Checks checks, Document document) {
        super(checks, document);
    }

    @Override
    void run() {
        send();
        sendRefuses();
        sent();
        sentRefuses();
        fillWhatIsLeft();
        fillWhatIsFree();
        fillParted();
        fillHeld();
        fillOne();
        fillAnswers();
        fillRefuses();
        empty();
        emptyRefuses();
        many();
        manyAtMost();
        manyRefuses();
        over();
        overNone();
    }

    private void amounts(Yard x, int load, int... want) {
        for (int i = 0; i < want.length; i++) {
            due(want[i], x, "sent", load, i);
        }
    }

    private void send() {
        sentence(15, "The AMOUNT of a LOAD along THE WAY i becomes another one: what it was.");
        for (int kind = 0; kind <= 2; kind++) {
            Yard x = Yards.parallel(20).with("load", kind, 0, 1, 1).with("load", kind, 0, 1, 1);
            due(0, x, "send", 0, 0, 100);
            due(100, x, "send", 0, 0, 0);
            due(0, x, "send", 0, 0, 0);
            due(0, x, "send", 0, 7, 1);
            due(1, x, "send", 0, 7, 100);
            due(0, x, "send", 0, 6, 99);
            amounts(x, 0, 0, 0, 0, 0, 0, 0, 99, 100);
            amounts(x, 1, 0, 0, 0, 0, 0, 0, 0, 0);
        }
        sameNow("there and back,", () -> Yards.full().with("send", 4, 7, 100).with("send", 4, 7, 0), Yards::full);
        sameKept("an amount leaves", () -> Yards.full().with("send", 4, 7, 100), Yards::full);
    }

    private void sendRefuses() {
        sentence(15, "NUMBER: there is no such LOAD, or amount isn't 0 to 100; NONE: it has no such WAY.");
        range(NUMBER, Yards::busy, 0, 0, 2, "send", 0, 0, 5);
        range(NONE, Yards::busy, 1, 0, 3, "send", 0, 0, 5);
        range(NONE, Yards::busy, 1, 0, 2, "send", 2, 0, 5);
        range(NUMBER, Yards::busy, 2, 0, 100, "send", 0, 0, 5);
        range(NUMBER, Yards::full, 0, 0, 4, "send", 0, 7, 0);
        range(NONE, Yards::full, 1, 0, 7, "send", 4, 0, 100);
        range(NUMBER, Yards::full, 2, 0, 100, "send", 4, 7, 5);
        refuses(NUMBER, Yards::diamond, "send", 0, 0, 0);
        for (int i : new int[] {0, 8, -1, LOW, HIGH}) {
            refuses(NONE, Yards::apart, "send", 1, i, 0);
            refuses(NONE, Yards::apart, "send", 3, i, 100);
            refusesBeyond(NUMBER, Yards::apart, 2, 0, 100, "send", 1, i, 0);
            refusesBeyond(NUMBER, Yards::apart, 0, 0, 3, "send", 0, i, 5);
        }
        refuses(NUMBER, Yards::busy, "send", 3, 4, 101);
    }

    private void sent() {
        sentence(16, "The AMOUNT of a LOAD along THE WAY i.");
        leaves(6, Yards::busy, "sent", 0, 0);
        leaves(0, Yards::busy, "sent", 0, 3);
        leaves(3, Yards::busy, "sent", 2, 2);
        leaves(1, Yards::full, "sent", 0, 0);
        leaves(35, Yards::full, "sent", 4, 6);
        leaves(0, Yards::full, "sent", 4, 7);
        due(100, Yards.parallel(8).with("load", 2, 0, 1, 1).with("send", 0, 7, 100), "sent", 0, 7);
    }

    private void sentRefuses() {
        sentence(16, "NUMBER: there is no such LOAD; NONE: it has no such WAY.");
        range(NUMBER, Yards::busy, 0, 0, 2, "sent", 0, 0);
        range(NONE, Yards::busy, 1, 0, 3, "sent", 0, 0);
        range(NONE, Yards::busy, 1, 0, 2, "sent", 2, 0);
        range(NUMBER, Yards::full, 0, 0, 4, "sent", 0, 7);
        range(NONE, Yards::full, 1, 0, 7, "sent", 4, 0);
        refuses(NUMBER, Yards::diamond, "sent", 0, 0);
        for (int i : new int[] {0, 8, -1, LOW, HIGH}) {
            refuses(NONE, Yards::apart, "sent", 1, i);
            refusesBeyond(NUMBER, Yards::apart, 0, 0, 3, "sent", 0, i);
        }
    }

    private static final String LEFT = "What is left of a LOAD's SIZE (nothing, if it is SENT, or more) is added:"
        + " FREE of a WAY is the least ROOM less USED of its ROADS (0 at least).";

    private void fillWhatIsLeft() {
        sentence(17, LEFT);
        for (int kind = 0; kind <= 2; kind++) {
            int k = kind;
            for (int sent : new int[] {5, 6, 100}) {
                leaves(0, () -> Yards.parallel(2).with("load", k, 0, 1, 5).with("send", 0, 0, sent), "fill", 0);
                leaves(0, () -> Yards.parallel(2).with("load", k, 0, 1, 5).with("send", 0, 1, sent), "fill", 0);
            }
            leaves(0, () -> Yards.parallel(2).with("load", k, 0, 1, 1).with("send", 0, 0, 1), "fill", 0);
            Yard all = Yards.parallel(1).with("room", 0, 100).with("load", kind, 0, 1, 100);
            due(100, all, "fill", 0);
            due(0, all, "fill", 0);
            due(100, all, "sent", 0, 0);
            Yard least = Yards.parallel(1).with("room", 0, 1).with("load", kind, 0, 1, 1);
            due(1, least, "fill", 0);
            due(1, least, "sent", 0, 0);
        }
        for (int kind : new int[] {0, 2}) {
            Yard one = Yards.parallel(2).with("load", kind, 0, 1, 5).with("send", 0, 1, 4);
            due(1, one, "fill", 0);
            amounts(one, 0, 1, 4);
        }
    }

    private void fillWhatIsFree() {
        sentence(17, LEFT);
        for (int kind = 0; kind <= 2; kind++) {
            int k = kind;
            Yard narrow = Yards.row(9, 100, 1).with("room", 7, 1).with("load", kind, 0, 8, 1);
            due(1, narrow, "fill", 0);
            Supplier<Yard> none = () -> Yards.row(9, 100, 1).with("room", 4, 0).with("load", k, 0, 8, 1);
            leaves(0, none, "fill", 0);
            // Another load uses all the room, or more than that.
            for (int used : new int[] {10, 11, 100}) {
                Supplier<Yard> over = () -> Yards.parallel(1).with("load", k, 0, 1, 1).with("load", 0, 1, 0, 1)
                    .with("send", 1, 0, used);
                leaves(0, over, "fill", 0);
            }
            Yard nine = Yards.parallel(1).with("load", kind, 0, 1, 1).with("load", 0, 1, 0, 1).with("send", 1, 0, 9);
            due(1, nine, "fill", 0);
            due(0, nine, "of", 0, 5);
        }
        // Its own amounts are USED, too, and a road that is OVER by them takes nothing away.
        leaves(0, () -> Yards.parallel(1).with("room", 0, 3).with("load", 0, 0, 1, 9).with("send", 0, 0, 5), "fill", 0);
        leaves(0, () -> Yards.parallel(1).with("room", 0, 3).with("load", 2, 0, 1, 9).with("send", 0, 0, 5), "fill", 0);
    }

    private void fillParted() {
        sentence(17, "Of one that isn't ONE along THE WAYS in order, to each as much as is left and FREE of it then.");
        Yard all = Yards.parallel(20).with("load", 0, 0, 1, 100);
        due(80, all, "fill", 0);
        amounts(all, 0, 10, 10, 10, 10, 10, 10, 10, 10);
        due(0, all, "of", 8, 4);
        Yard eighth = Yards.parallel(20).with("load", 0, 0, 1, 71);
        due(71, eighth, "fill", 0);
        amounts(eighth, 0, 10, 10, 10, 10, 10, 10, 10, 1);
        Yard seven = Yards.parallel(20).with("load", 0, 0, 1, 70);
        due(70, seven, "fill", 0);
        amounts(seven, 0, 10, 10, 10, 10, 10, 10, 10, 0);
        // Each of the 8 ways has road 0: what the first takes isn't FREE of the others then.
        Yard shared = Yards.bridge(10).with("load", 0, 0, 4, 100);
        due(10, shared, "fill", 0);
        amounts(shared, 0, 10, 0, 0, 0, 0, 0, 0, 0);
        Yard diamond = Yards.diamond().with("load", 0, 0, 3, 15).with("send", 0, 3, 1);
        due(11, diamond, "fill", 0);
        amounts(diamond, 0, 5, 4, 2, 1);
        leaves(0, Yards::apart, "fill", 1);
    }

    private void fillHeld() {
        sentence(17, "Of a HELD one along its WAY alone (if there is one such), as much as is left and FREE.");
        Yard x = Yards.parallel(8).with("load", 2, 0, 1, 100).with("hold", 0, 7);
        due(10, x, "fill", 0);
        amounts(x, 0, 0, 0, 0, 0, 0, 0, 0, 10);
        x.with("hold", 0, 0);
        due(10, x, "fill", 0);
        amounts(x, 0, 10, 0, 0, 0, 0, 0, 0, 10);
        x.with("hold", 0, 3).with("resize", 0, 21);
        due(1, x, "fill", 0);
        amounts(x, 0, 10, 0, 0, 1, 0, 0, 0, 10);
        due(0, x, "fill", 0);
        leaves(0, Yards::apart, "fill", 3);
    }

    private void fillOne() {
        sentence(17, "Of a ONE one that isn't HELD all that is left along the first WAY that has so much FREE,"
            + " if all its AMOUNTS are 0; else nothing.");
        Supplier<Yard> made = () -> Yards.parallel(3).with("room", 0, 4).with("room", 1, 5).with("room", 2, 7)
            .with("load", 1, 0, 1, 100);
        int[][] want = {{1, 0}, {4, 0}, {5, 1}, {6, 2}, {7, 2}};
        for (int[] w : want) {
            Yard x = made.get().with("resize", 0, w[0]);
            due(w[0], x, "fill", 0);
            for (int i = 0; i < 3; i++) {
                due(i == w[1] ? w[0] : 0, x, "sent", 0, i);
            }
        }
        leaves(0, () -> made.get().with("resize", 0, 8), "fill", 0);
        leaves(0, made, "fill", 0);
        for (int i = 0; i < 3; i++) {
            int way = i;
            leaves(0, () -> made.get().with("resize", 0, 2).with("send", 0, way, 1), "fill", 0);
        }
        Yard eighth = Yards.parallel(20).with("room", 7, 11).with("room", 8, 100).with("load", 1, 0, 1, 11);
        due(11, eighth, "fill", 0);
        due(11, eighth, "sent", 0, 7);
        leaves(0, () -> Yards.parallel(20).with("room", 8, 100).with("load", 1, 0, 1, 11), "fill", 0);
        leaves(0, Yards::apart, "fill", 2);
    }

    private void fillAnswers() {
        sentence(17, "How much is added.");
        for (int sent = 0; sent <= 6; sent++) {
            Yard x = Yards.parallel(2).with("load", 0, 0, 1, 5).with("send", 0, 1, sent);
            due(Math.max(0, 5 - sent), x, "fill", 0);
            due(Math.max(5, sent), x, "told", 0, 5);
        }
        Yard others = Yards.busy();
        due(0, others, "fill", 1);
        due(11, others, "told", 0, 5);
        sameKept("a fill leaves", () -> Yards.busy().with("fill", 2), Yards::busy);
    }

    private void fillRefuses() {
        sentence(17, "NUMBER: there is no such LOAD.");
        range(NUMBER, Yards::busy, 0, 0, 2, "fill", 0);
        range(NUMBER, Yards::full, 0, 0, 4, "fill", 0);
        refusesBeyond(NUMBER, Yards::apart, 0, 0, 3, "fill", 0);
        refuses(NUMBER, Yards::diamond, "fill", 0);
        refuses(NUMBER, Yards::diamond, "fill", -1);
    }

    /** Five loads with 8 ways of 8 roads each, so much along each of them. */
    private static Yard sentEverywhere(int room, int amount) {
        Yard x = EdgesOfBarTerms.fiveLoads(Yards.longWays(room), 0, 8, 100);
        for (int at = 0; at < 40; at++) {
            x.with("send", at / 8, at % 8, amount);
        }
        return x;
    }

    private void empty() {
        sentence(18, "All AMOUNTS of a LOAD, or of all (-1), become 0: how much was SENT.");
        Yard all = sentEverywhere(0, 100);
        due(4000, all, "empty", -1);
        due(0, all, "empty", -1);
        due(0, all, "many", 7);
        for (int load = 0; load < 5; load++) {
            Yard x = sentEverywhere(0, 100);
            due(800, x, "empty", load);
            due(0, x, "empty", load);
            for (int at = 0; at < 40; at++) {
                due(at / 8 == load ? 0 : 100, x, "sent", at / 8, at % 8);
            }
        }
        leaves(0, Yard::new, "empty", -1);
        leaves(0, Yards::diamond, "empty", -1);
        leaves(0, () -> sentEverywhere(0, 0), "empty", -1);
        leaves(0, Yards::apart, "empty", 3);
        due(3, Yards.busy(), "empty", 2);
        Yard told = Yards.busy();
        due(16, told, "empty", -1);
        due(1, told, "told", 2, 8);
        due(20, told, "of", 1, 6);
        sameKept("what is taken back leaves", () -> Yards.busy().with("empty", -1), Yards::busy);
    }

    private void emptyRefuses() {
        sentence(18, "NUMBER: there is no such LOAD.");
        range(NUMBER, Yards::busy, 0, -1, 2, "empty", 0);
        range(NUMBER, Yards::full, 0, -1, 4, "empty", 0);
        refusesBeyond(NUMBER, Yards::diamond, 0, -1, -1, "empty", 0);
        refuses(NUMBER, Yards::diamond, "empty", 0);
    }

    private static final String MANY = "What = 0 POSTS, 1 ROADS, 2 LOADS, 3 ROADS that are OVER, 4 by how much they"
        + " are, together, 5 COST, 6 1 if THE SENDING FITS, else 0, 7 how much is SENT of all LOADS,"
        + " 8 all SIZES together.";

    private void many() {
        sentence(19, MANY);
        int[] nothing = {1, 0, 0, 0, 0, 0, 1, 0, 0};
        int[] posts = {9, 0, 0, 0, 0, 0, 1, 0, 0};
        int[] roads = {4, 5, 0, 0, 0, 0, 1, 0, 0};
        int[] apart = {4, 1, 4, 0, 0, 6, 0, 3, 22};
        for (int what = 0; what <= 8; what++) {
            leaves(nothing[what], Yard::new, "many", what);
            leaves(posts[what], () -> Yards.bare(9), "many", what);
            leaves(roads[what], Yards::diamond, "many", what);
            leaves(apart[what], Yards::apart, "many", what);
        }
        Yard x = Yards.parallel(1).with("load", 0, 0, 1, 10).with("send", 0, 0, 10);
        int[] full = {2, 1, 1, 0, 0, 30, 1, 10, 10};
        int[] over = {2, 1, 1, 1, 1, 33, 0, 11, 10};
        for (int what = 0; what <= 8; what++) {
            due(full[what], x, "many", what);
        }
        x.with("send", 0, 0, 11);
        for (int what = 0; what <= 8; what++) {
            due(over[what], x, "many", what);
        }
    }

    /** Three loads with a road for each way: 8, 8 and 4 of them; each road is USED so much. */
    static Yard twentyRoads(int room, int amount) {
        Yard x = Yards.bare(9);
        for (int r = 0; r < 20; r++) {
            x.with("road", r / 8 * 2, r / 8 * 2 + 1, room, 50);
        }
        for (int load = 0; load < 3; load++) {
            x.with("load", load, load * 2, load * 2 + 1, 100);
            for (int i = 0; i < (load == 2 ? 4 : 8); i++) {
                x.with("send", load, i, amount);
            }
        }
        return x;
    }

    private void manyAtMost() {
        sentence(19, MANY);
        // Of 8 ways 4 have each of the roads 0 to 2 and 8 to 10, and all have each of the others.
        Yard most = sentEverywhere(0, 100);
        int[] want = {9, 11, 5, 11, 6 * 2000 + 5 * 4000, 1600000, 0, 4000, 500};
        for (int what = 0; what <= 8; what++) {
            due(want[what], most, "many", what);
        }
        Yard roads = twentyRoads(0, 100);
        due(20, roads, "many", 1);
        due(20, roads, "many", 3);
        due(2000, roads, "many", 4);
        due(2000, roads, "many", 7);
        due(0, twentyRoads(100, 100), "many", 3);
        due(0, twentyRoads(100, 100), "many", 4);
        due(20, twentyRoads(99, 100), "many", 4);
    }

    private void manyRefuses() {
        sentence(19, "NUMBER: another what.");
        range(NUMBER, Yard::new, 0, 0, 8, "many", 0);
        range(NUMBER, Yards::busy, 0, 0, 8, "many", 0);
        range(NUMBER, Yards::full, 0, 0, 8, "many", 0);
    }

    private void over() {
        sentence(20, "The first ROAD that is OVER.");
        leaves(1, Yards::busy, "over");
        Yard x = twentyRoads(100, 100).with("room", 19, 99);
        due(19, x, "over");
        x.with("room", 8, 99);
        due(8, x, "over");
        x.with("room", 0, 0);
        due(0, x, "over");
        x.with("room", 0, 100).with("room", 8, 100);
        due(19, x, "over");
    }

    private void overNone() {
        sentence(20, "NONE: there is none.");
        refuses(NONE, Yard::new, "over");
        refuses(NONE, Yards::diamond, "over");
        refuses(NONE, Yards::apart, "over");
        refuses(NONE, () -> twentyRoads(100, 100), "over");
        refuses(NONE, () -> twentyRoads(0, 0), "over");
    }
}
