/** Promises 11 to 14: the ways. */
final class EdgesOfWays extends Edges {
    EdgesOfWays(Checks checks, Document document) {
        super(checks, document);
    }

    @Override
    void run() {
        roads();
        roadsRefuses();
        way();
        wayRefuses();
        price();
        priceRefuses();
        cheap();
        cheapRefuses();
    }

    private void roads() {
        sentence(11, "How many ROADS THE WAY i of a LOAD has.");
        for (int posts = 2; posts <= 9; posts++) {
            due(posts - 1, Yards.row(posts, 0, 0).with("load", 2, posts - 1, 0, 1), "roads", 0, 0);
        }
        int[] want = {2, 2, 3, 3};
        for (int i = 0; i < want.length; i++) {
            leaves(want[i], Yards::busy, "roads", 0, i);
        }
        Yard x = Yards.longWays(1).with("load", 0, 0, 8, 1);
        for (int i = 0; i < 8; i++) {
            due(8, x, "roads", 0, i);
        }
    }

    /** What the calls about way i of a load refuse alike. */
    private void refusesWays(String call) {
        range(NUMBER, Yards::busy, 0, 0, 2, call, 0, 0);
        range(NONE, Yards::busy, 1, 0, 3, call, 0, 0);
        range(NONE, Yards::busy, 1, 0, 2, call, 2, 0);
        range(NUMBER, Yards::full, 0, 0, 4, call, 0, 7);
        range(NONE, Yards::full, 1, 0, 7, call, 4, 0);
        refuses(NUMBER, Yards::diamond, call, 0, 0);
        for (int i : new int[] {0, 8, -1, LOW, HIGH}) {
            refuses(NONE, Yards::apart, call, 1, i);
            refuses(NONE, Yards::apart, call, 3, i);
            refuses(NUMBER, Yards::apart, call, 4, i);
            refuses(NUMBER, Yards::apart, call, -1, i);
        }
    }

    private void roadsRefuses() {
        sentence(11, "NUMBER: there is no such LOAD; NONE: it has no such WAY.");
        refusesWays("roads");
    }

    private void way() {
        sentence(12, "ROAD k (from 0 on) of THE WAY i of a LOAD.");
        Yard x = Yards.longWays(1).with("load", 0, 0, 8, 1).with("load", 0, 8, 0, 1);
        // Roads 8, 9 and 10 run beside roads 0, 1 and 2.
        ways(x, 0, along(0, 1, 2, 3, 4, 5, 6, 7), along(0, 1, 10, 3, 4, 5, 6, 7), along(0, 9, 2, 3, 4, 5, 6, 7),
            along(0, 9, 10, 3, 4, 5, 6, 7), along(8, 1, 2, 3, 4, 5, 6, 7), along(8, 1, 10, 3, 4, 5, 6, 7),
            along(8, 9, 2, 3, 4, 5, 6, 7), along(8, 9, 10, 3, 4, 5, 6, 7));
        ways(x, 1, along(7, 6, 5, 4, 3, 2, 1, 0), along(7, 6, 5, 4, 3, 2, 1, 8), along(7, 6, 5, 4, 3, 2, 9, 0),
            along(7, 6, 5, 4, 3, 2, 9, 8), along(7, 6, 5, 4, 3, 10, 1, 0), along(7, 6, 5, 4, 3, 10, 1, 8),
            along(7, 6, 5, 4, 3, 10, 9, 0), along(7, 6, 5, 4, 3, 10, 9, 8));
        Yard last = Yards.bare(4);
        for (int r = 0; r < 19; r++) {
            last.with("road", 0, 1, 1, 1);
        }
        last.with("road", 3, 2, 1, 1).with("load", 0, 2, 3, 1);
        ways(last, 0, along(19));
        leaves(4, Yards::busy, "way", 0, 2, 1);
    }

    private void wayRefuses() {
        sentence(12, "NUMBER: there is no such LOAD; NONE: it has no such WAY, or that no such ROAD.");
        range(NUMBER, Yards::busy, 0, 0, 2, "way", 0, 0, 0);
        range(NONE, Yards::busy, 1, 0, 3, "way", 0, 0, 0);
        range(NONE, Yards::busy, 2, 0, 1, "way", 0, 0, 0);
        range(NONE, Yards::busy, 2, 0, 2, "way", 0, 3, 0);
        range(NONE, Yards::busy, 2, 0, 0, "way", 2, 0, 0);
        range(NONE, () -> Yards.row(9, 1, 1).with("load", 1, 0, 8, 1), 2, 0, 7, "way", 0, 0, 0);
        range(NUMBER, Yards::full, 0, 0, 4, "way", 0, 7, 0);
        range(NONE, Yards::full, 1, 0, 7, "way", 4, 0, 0);
        for (int wrong : new int[] {0, 8, -1, LOW, HIGH}) {
            refuses(NONE, Yards::apart, "way", 1, wrong, 0);
            refuses(NONE, Yards::apart, "way", 3, 0, wrong);
            refuses(NUMBER, Yards::apart, "way", 4, wrong, wrong);
        }
        refuses(NUMBER, Yards::diamond, "way", 0, 0, 0);
        refuses(NONE, Yards::busy, "way", 0, 4, 2);
    }

    private void price() {
        sentence(13, "The PRICES of the ROADS of THE WAY i of a LOAD, together.");
        Yard most = Yards.longWays(0).with("load", 2, 8, 0, 1);
        for (int i = 0; i < 8; i++) {
            due(400, most, "price", 0, i);
        }
        due(0, Yards.row(9, 0, 0).with("load", 0, 0, 8, 1), "price", 0, 0);
        int[] want = {4, 2, 3, 3};
        for (int i = 0; i < want.length; i++) {
            leaves(want[i], Yards::busy, "price", 0, i);
        }
    }

    private void priceRefuses() {
        sentence(13, "NUMBER: there is no such LOAD; NONE: it has no such WAY.");
        refusesWays("price");
    }

    private void cheap() {
        sentence(14, "THE WAY of a LOAD with the least PRICES, of several the first.");
        Yard alike = Yards.parallel(20).with("load", 0, 0, 1, 1);
        due(0, alike, "cheap", 0);
        Yard x = Yards.bare(2);
        for (int r = 0; r < 20; r++) {
            // Road 7 is the last of the ways and road 8 none of them, though it is the cheapest.
            x.with("road", 0, 1, 1, r == 7 ? 49 : r == 8 ? 0 : 50);
        }
        x.with("load", 1, 1, 0, 1);
        due(7, x, "cheap", 0);
        Yard several = Yards.bare(2).with("road", 0, 1, 1, 1).with("road", 0, 1, 1, 0).with("road", 0, 1, 1, 0)
            .with("load", 2, 0, 1, 1);
        due(1, several, "cheap", 0);
        due(0, Yards.row(2, 0, 50).with("load", 0, 0, 1, 1), "cheap", 0);
        leaves(1, Yards::busy, "cheap", 0);
    }

    private void cheapRefuses() {
        sentence(14, "NUMBER: there is no such LOAD; NONE: it has no WAYS.");
        range(NUMBER, Yards::busy, 0, 0, 2, "cheap", 0);
        range(NUMBER, Yards::full, 0, 0, 4, "cheap", 0);
        refuses(NUMBER, Yards::diamond, "cheap", 0);
        refuses(NONE, Yards::apart, "cheap", 1);
        refuses(NONE, Yards::apart, "cheap", 2);
        refuses(NONE, Yards::apart, "cheap", 3);
        refusesBeyond(NUMBER, Yards::apart, 0, 0, 3, "cheap", 0);
    }
}
