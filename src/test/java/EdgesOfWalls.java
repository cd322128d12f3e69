/** Promises 22 to 28: walls and measures. */
final class EdgesOfWalls extends Edges {
    EdgesOfWalls(Checks checks, Document document) {
        super(checks, document);
    }

    @Override
    void run() {
        wall();
        call();
        noCut();
        bars();
        barring();
        barringNone();
        meets();
        meetsRefuses();
        measure();
        measureRefuses();
        barred();
        barredWithoutAWay();
    }

    private void wall() {
        sentence(22, "The WALL of a CUT.");
        int[] want = {15, 19, 14, 16, 21, 29, 14};
        for (int cut = 1; cut <= 7; cut++) {
            leaves(want[cut - 1], Yards::busy, "wall", cut);
            leaves(want[cut - 1], Yards::busy, "wall", 15 - cut);
        }
        due(0, Yards.bare(2), "wall", 1);
        due(0, Yards.bare(9), "wall", 510);
        due(2000, EdgesOfBarTerms.widest(), "wall", 1);
        due(2000, EdgesOfBarTerms.widest(), "wall", 2);
        Yard row = Yards.row(9, 100, 0);
        due(100, row, "wall", 1);
        due(100, row, "wall", 255);
        due(100, row, "wall", 256);
        due(100, row, "wall", 510);
        due(800, row, "wall", 0b101010101);
        due(800, row, "wall", 0b010101010);
    }

    private void call() {
        sentence(23, "The CALL of a CUT.");
        int[] want = {18, 9, 27, 9, 27, 0, 18};
        for (int cut = 1; cut <= 7; cut++) {
            leaves(want[cut - 1], Yards::busy, "call", cut);
            leaves(want[cut - 1], Yards::busy, "call", 15 - cut);
        }
        due(0, Yards.bare(2), "call", 1);
        due(0, Yards.row(9, 1, 1), "call", 510);
        Yard five = EdgesOfBarTerms.fiveLoads(Yards.bare(9), 0, 8, 100);
        due(500, five, "call", 1);
        due(500, five, "call", 510);
        due(0, five, "call", 257);
        due(0, five, "call", 2);
    }

    private void noCut() {
        for (String call : new String[] {"wall", "call"}) {
            sentence(call.equals("wall") ? 22 : 23, "NUMBER: it is none.");
            for (int wrong : new int[] {0, 1, 2, 3, -1, LOW, HIGH}) {
                refuses(NUMBER, Yard::new, call, wrong);
            }
            range(NUMBER, () -> Yards.parallel(3), 0, 1, 2, call, 0);
            range(NUMBER, Yards::busy, 0, 1, 14, call, 0);
            range(NUMBER, Yards::full, 0, 1, 510, call, 0);
            refuses(NUMBER, Yards::busy, call, 16);
            refuses(NUMBER, Yards::busy, call, 17);
            refuses(NUMBER, Yards::full, call, 512);
            refuses(NUMBER, Yards::full, call, 513);
        }
    }

    private void bars() {
        sentence(24, "By how much the CUT BARS that does so most; 0 if none does.");
        leaves(0, Yard::new, "bars");
        leaves(0, Yards::diamond, "bars");
        leaves(0, () -> EdgesOfBarTerms.fiveLoads(EdgesOfBarTerms.widest(), 0, 1, 100), "bars");
        leaves(500, () -> EdgesOfBarTerms.fiveLoads(Yards.bare(9), 0, 8, 100), "bars");
        leaves(13, Yards::busy, "bars");
        Yard five = EdgesOfBarTerms.fiveLoads(Yards.parallel(5), 0, 1, 10);
        due(0, five, "bars");
        five.with("room", 4, 9);
        due(1, five, "bars");
        five.with("room", 4, 11);
        due(0, five, "bars");
        // A wall with room left doesn't make another one bar less.
        Yard row = Yards.row(3, 100, 1).with("room", 1, 0).with("load", 0, 0, 1, 1).with("load", 0, 1, 2, 1);
        due(1, row, "bars");
    }

    private void barring() {
        sentence(25, "The least CUT (as it is told) that BARS most.");
        due(1, Yards.bare(2).with("load", 0, 1, 0, 1), "barring");
        due(1, Yards.bare(9).with("load", 0, 8, 0, 1), "barring");
        due(128, Yards.bare(9).with("load", 0, 8, 7, 1), "barring");
        due(255, Yards.row(9, 100, 1).with("room", 7, 0).with("load", 0, 8, 0, 100), "barring");
        due(1, Yards.row(9, 100, 1).with("room", 0, 0).with("load", 0, 8, 0, 100), "barring");
        // Cuts 1 and 3 bar by 1, then cut 3 by 2.
        Yard row = Yards.row(3, 9, 1).with("load", 0, 0, 2, 10);
        due(1, row, "barring");
        row.with("room", 1, 8);
        due(3, row, "barring");
        leaves(3, Yards::busy, "barring");
    }

    private void barringNone() {
        sentence(25, "NONE: none does.");
        refuses(NONE, Yard::new, "barring");
        refuses(NONE, Yards::diamond, "barring");
        refuses(NONE, () -> Yards.bare(9), "barring");
        refuses(NONE, () -> Yards.parallel(1).with("load", 0, 0, 1, 10), "barring");
        refuses(NONE, () -> EdgesOfBarTerms.fiveLoads(Yards.parallel(5), 0, 1, 10), "barring");
        due(1, Yards.parallel(1).with("load", 0, 0, 1, 11), "barring");
    }

    private void meets() {
        sentence(26, "The least CUT (as it is told) whose WALL is MOST of a LOAD, of those that have its first POST,"
            + " but not its other one.");
        due(1, Yards.bare(9).with("load", 0, 0, 8, 1), "meets", 0);
        due(256, Yards.bare(9).with("load", 0, 8, 0, 1), "meets", 0);
        due(1, Yards.bare(2).with("load", 0, 0, 1, 1), "meets", 0);
        due(2, Yards.bare(2).with("load", 0, 1, 0, 1), "meets", 0);
        Yard row = Yards.row(9, 100, 1).with("room", 7, 99).with("load", 0, 0, 8, 1).with("load", 0, 8, 0, 1);
        due(255, row, "meets", 0);
        due(256, row, "meets", 1);
        row.with("room", 7, 100);
        due(1, row, "meets", 0);
        due(256, row, "meets", 1);
        row.with("room", 0, 99);
        due(1, row, "meets", 0);
        due(510, row, "meets", 1);
        // Post 0 hangs on post 1 by a road with room: it must be inside, though the cut is no lesser then.
        Yard hangs = Yards.row(3, 5, 1).with("room", 1, 4).with("load", 0, 1, 2, 1);
        due(3, hangs, "meets", 0);
        hangs.with("room", 0, 0);
        due(2, hangs, "meets", 0);
        leaves(3, Yards::busy, "meets", 0);
        leaves(3, Yards::apart, "meets", 1);
        leaves(4, Yards::apart, "meets", 2);
        leaves(8, Yards::apart, "meets", 3);
    }

    private void meetsRefuses() {
        sentence(26, "NUMBER: there is no such LOAD.");
        range(NUMBER, Yards::busy, 0, 0, 2, "meets", 0);
        range(NUMBER, Yards::full, 0, 0, 4, "meets", 0);
        refuses(NUMBER, Yards::diamond, "meets", 0);
    }

    private void measure() {
        sentence(27, "A ROAD's LENGTH becomes another one: what it was.");
        for (int road : new int[] {0, 19}) {
            Yard x = Yards.parallel(20);
            due(1, x, "measure", road, 20);
            due(20, x, "measure", road, 0);
            due(0, x, "measure", road, 0);
            due(0, x, "measure", road, 2);
            for (int r = 0; r < 20; r++) {
                due(r == road ? 2 : 1, x, "of", r, 6);
            }
        }
        sameNow("there and back,", () -> Yards.busy().with("measure", 1, 0).with("measure", 1, 20), Yards::busy);
        sameKept("a length leaves", () -> Yards.busy().with("measure", 1, 0), Yards::busy);
    }

    private void measureRefuses() {
        sentence(27, "NUMBER: there is no such ROAD, or it isn't 0 to 20.");
        range(NUMBER, Yards::busy, 0, 0, 4, "measure", 0, 5);
        range(NUMBER, Yards::busy, 1, 0, 20, "measure", 0, 0);
        range(NUMBER, Yards::full, 0, 0, 19, "measure", 0, 5);
        range(NUMBER, Yards::full, 1, 0, 20, "measure", 19, 0);
        refuses(NUMBER, () -> Yards.bare(9), "measure", 0, 5);
        refuses(NUMBER, Yards::busy, "measure", 5, 21);
    }

    private static final String BARRED = "By how much THE MEASURE BARS; 0 if it doesn't;"
        + " -2 if it does because two POSTS of a LOAD have no WAY.";

    private void barred() {
        sentence(28, BARRED);
        leaves(0, Yard::new, "barred");
        leaves(0, Yards::diamond, "barred");
        leaves(0, () -> Yards.parallel(1).with("load", 0, 0, 1, 9), "barred");
        leaves(0, () -> Yards.parallel(1).with("load", 0, 0, 1, 10), "barred");
        leaves(1, () -> Yards.parallel(1).with("load", 0, 0, 1, 11), "barred");
        leaves(20, () -> Yards.parallel(1).with("load", 0, 0, 1, 11).with("measure", 0, 20), "barred");
        leaves(0, () -> Yards.parallel(1).with("load", 0, 0, 1, 11).with("measure", 0, 0), "barred");
        // 13 times 2, 5 times 2 and 9 times 0 are less than 70, 120, 5, 8 and 0.
        leaves(0, Yards::busy, "barred");
        Yard busy = Yards.busy().with("room", 1, 0).with("room", 0, 0).with("resize", 0, 100);
        due(100 * 2 + 5 * 2 - 5 - 8, busy, "barred");
        // The ninth road is the short way, and has to be counted.
        Yard ninth = Yards.parallel(9).with("load", 0, 0, 1, 100);
        for (int r = 0; r < 9; r++) {
            ninth.with("room", r, 0);
        }
        due(100, ninth, "barred");
        ninth.with("measure", 8, 0);
        due(0, ninth, "barred");
    }

    private void barredWithoutAWay() {
        sentence(28, BARRED);
        leaves(-2, Yards::apart, "barred");
        leaves(-2, () -> Yards.bare(2).with("load", 0, 0, 1, 1), "barred");
        for (int load = 0; load < 5; load++) {
            Yard x = Yards.bare(3).with("road", 0, 1, 0, 1);
            for (int other = 0; other < 5; other++) {
                x.with("load", other % 3, 0, other == load ? 2 : 1, 100);
            }
            due(-2, x, "barred");
            x.with("road", 1, 2, 0, 1);
            due(600, x, "barred");
        }
    }
}
