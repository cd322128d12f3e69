/** Promises 6 to 10: the loads. */
final class EdgesOfLoads extends Edges {
    EdgesOfLoads(Checks checks, Document document) {
        super(checks, document);
    }

    @Override
    void run() {
        load();
        loadRefuses();
        loadFull();
        resize();
        sendingStays();
        resizeRefuses();
        hold();
        holdRefuses();
        told();
        toldOfTheSending();
        toldRefuses();
        is();
        isRefuses();
    }

    private void load() {
        sentence(6, "A LOAD comes: its number.");
        Yard x = Yards.row(9, 100, 1);
        for (int load = 0; load < 5; load++) {
            due(load, x, "load", load % 3, load, 8 - load / 4, load == 0 ? 1 : 25 * load);
            due(load + 1, x, "many", 2);
        }
        for (int load = 0; load < 5; load++) {
            int[] want = {load % 3, load, 8 - load / 4, load == 0 ? 1 : 25 * load, 1, 0, 100, 8 - load / 4 - load,
                load % 3 == 2 ? 0 : -1, 0};
            for (int what = 0; what < want.length; what++) {
                due(want[what], x, "told", load, what);
            }
        }
        Yard busy = Yards.busy();
        due(3, busy, "load", 2, 3, 0, 100);
        int[] sent = {11, 2, 3, 0};
        for (int load = 0; load < 4; load++) {
            due(sent[load], busy, "told", load, 5);
        }
        due(1, busy, "told", 2, 8);
        due(0, busy, "told", 3, 8);
        sameKept("a load that comes leaves", () -> Yards.busy().with("load", 2, 3, 0, 100), Yards::busy);
    }

    private static final String LOAD = "NUMBER: one is no POST, they are the same, kind isn't 0 to 2,"
        + " or size not 1 to 100; FULL.";

    private void loadRefuses() {
        sentence(6, LOAD);
        range(NUMBER, Yards::busy, 0, 0, 2, "load", 0, 0, 1, 5);
        range(NUMBER, Yards::busy, 1, 0, 3, "load", 0, 0, 1, 5);
        range(NUMBER, Yards::busy, 2, 0, 3, "load", 0, 1, 0, 5);
        range(NUMBER, Yards::busy, 3, 1, 100, "load", 0, 0, 1, 5);
        for (int p = -1; p <= 4; p++) {
            refuses(NUMBER, Yards::busy, "load", 0, p, p, 5);
        }
        refuses(NUMBER, Yards::busy, "load", HIGH, LOW, HIGH, LOW);
        refuses(NUMBER, Yards::busy, "load", 3, 4, 4, 0);
    }

    private void loadFull() {
        sentence(6, LOAD);
        Yard four = Yards.bare(2);
        for (int load = 0; load < 4; load++) {
            four.with("load", 0, 0, 1, 1);
        }
        due(4, four, "load", 0, 0, 1, 1);
        due(FULL, four, "load", 0, 0, 1, 1);
        refuses(FULL, Yards::full, "load", 0, 0, 8, 1);
        refuses(FULL, Yards::full, "load", 2, 8, 0, 100);
        refusesBeyond(NUMBER, Yards::full, 0, 0, 2, "load", 0, 0, 1, 5);
        refusesBeyond(NUMBER, Yards::full, 1, 0, 8, "load", 0, 0, 1, 5);
        refusesBeyond(NUMBER, Yards::full, 2, 0, 8, "load", 0, 0, 1, 5);
        refusesBeyond(NUMBER, Yards::full, 3, 1, 100, "load", 0, 0, 1, 5);
        refuses(NUMBER, Yards::full, "load", 0, 4, 4, 5);
        Yard freed = Yards.full().with("net", 2);
        due(0, freed, "load", 0, 0, 1, 1);
        freed.with("back");
        due(FULL, freed, "load", 0, 0, 1, 1);
    }

    private void resize() {
        sentence(7, "The SIZE of a LOAD becomes another one: what it was.");
        for (int load : new int[] {0, 4}) {
            Yard x = Yards.full();
            due(100 - load, x, "resize", load, 100);
            due(100, x, "resize", load, 1);
            due(1, x, "resize", load, 1);
            due(1, x, "resize", load, 2);
            for (int other = 0; other < 5; other++) {
                due(other == load ? 2 : 100 - other, x, "told", other, 3);
            }
        }
    }

    private void sendingStays() {
        sentence(7, "(THE SENDING stays.)");
        for (int size : new int[] {1, 100}) {
            Yard x = Yards.full().with("resize", 4, size);
            for (int at = 0; at < 40; at++) {
                due(at == 39 ? 0 : 7 * (at / 8) + at % 8 + 1, x, "sent", at / 8, at % 8);
            }
            due(3, x, "told", 2, 8);
        }
        sameNow("there and back,", () -> Yards.busy().with("resize", 0, 1).with("resize", 0, 13), Yards::busy);
        sameKept("a size leaves", () -> Yards.busy().with("resize", 0, 1), Yards::busy);
    }

    private void resizeRefuses() {
        sentence(7, "NUMBER: there is no such LOAD, or it isn't 1 to 100.");
        range(NUMBER, Yards::busy, 0, 0, 2, "resize", 0, 5);
        range(NUMBER, Yards::busy, 1, 1, 100, "resize", 0, 5);
        range(NUMBER, Yards::full, 0, 0, 4, "resize", 0, 5);
        range(NUMBER, Yards::full, 1, 1, 100, "resize", 4, 5);
        refuses(NUMBER, Yards::diamond, "resize", 0, 5);
        refuses(NUMBER, Yards::busy, "resize", 3, 0);
    }

    private void hold() {
        sentence(8, "The WAY of a HELD LOAD is THE WAY i: what it was.");
        Yard x = Yards.parallel(20).with("load", 2, 0, 1, 5).with("load", 2, 1, 0, 5).with("send", 0, 2, 5);
        due(0, x, "hold", 0, 7);
        due(7, x, "hold", 0, 0);
        due(0, x, "hold", 0, 0);
        due(0, x, "hold", 0, 6);
        due(6, x, "told", 0, 8);
        due(0, x, "told", 1, 8);
        due(5, x, "sent", 0, 2);
        sameNow("there and back,", () -> Yards.busy().with("hold", 2, 0).with("hold", 2, 1), Yards::busy);
        sameKept("a way told leaves", () -> Yards.busy().with("hold", 2, 0), Yards::busy);
    }

    private void holdRefuses() {
        sentence(8, "NUMBER: there is no such LOAD; KIND: it isn't HELD; NONE: it has no such WAY.");
        range(NONE, Yards::busy, 1, 0, 2, "hold", 2, 0);
        range(NONE, Yards::full, 1, 0, 7, "hold", 2, 0);
        for (int i : new int[] {0, 3, 8, -1, LOW, HIGH}) {
            refuses(KIND, Yards::busy, "hold", 0, i);
            refuses(KIND, Yards::busy, "hold", 1, i);
            refusesBeyond(NUMBER, Yards::busy, 0, 0, 2, "hold", 0, i);
            refuses(NONE, Yards::apart, "hold", 3, i);
            refuses(KIND, Yards::apart, "hold", 1, i);
            refuses(KIND, Yards::apart, "hold", 2, i);
            refuses(NUMBER, Yards::apart, "hold", 4, i);
        }
        refuses(NUMBER, Yards::diamond, "hold", 0, 0);
    }

    private static final String TOLD = "Of a LOAD: what = 0 its KIND, 1 from, 2 to, 3 SIZE, 4 how many WAYS it has"
        + " (8 at most), 5 SENT, 6 MOST, 7 FAR (-1 if its POSTS have no WAY), 8 the WAY that is told of a HELD one"
        + " (-1 of others), 9 how many AMOUNTS aren't 0.";

    private void told() {
        sentence(9, TOLD);
        int[][] apart = {{0, 0, 2, 5, 0, 0, 0, -1, -1, 0}, {1, 2, 1, 6, 0, 0, 0, -1, -1, 0},
            {2, 3, 2, 7, 0, 0, 0, -1, 0, 0}};
        for (int load = 1; load <= 3; load++) {
            for (int what = 0; what <= 9; what++) {
                leaves(apart[load - 1][what], Yards::apart, "told", load, what);
            }
        }
        Yard x = EdgesOfBarTerms.widest().with("load", 2, 1, 0, 100).with("load", 0, 0, 1, 1).with("hold", 0, 7);
        int[][] want = {{2, 1, 0, 100, 8, 0, 2000, 1, 7, 0}, {0, 0, 1, 1, 8, 0, 2000, 1, -1, 0}};
        for (int load = 0; load < 2; load++) {
            for (int what = 0; what <= 9; what++) {
                due(want[load][what], x, "told", load, what);
            }
        }
        for (int roads : new int[] {0, 1, 7, 8, 9}) {
            due(Math.min(roads, 8), Yards.parallel(roads).with("load", 1, 0, 1, 1), "told", 0, 4);
        }
        due(-1, Yards.parallel(1).with("load", 1, 0, 1, 1), "told", 0, 8);
    }

    private void toldOfTheSending() {
        sentence(9, TOLD);
        Yard x = Yards.parallel(8).with("load", 0, 0, 1, 1).with("load", 0, 0, 1, 1);
        for (int i = 0; i < 8; i++) {
            due(100 * i, x, "told", 0, 5);
            due(i, x, "told", 0, 9);
            x.with("send", 0, i, 100);
        }
        due(800, x, "told", 0, 5);
        due(8, x, "told", 0, 9);
        due(0, x, "told", 1, 5);
        due(0, x, "told", 1, 9);
        x.with("send", 0, 3, 0);
        due(7, x, "told", 0, 9);
        x.with("send", 0, 3, 1);
        due(701, x, "told", 0, 5);
        due(8, x, "told", 0, 9);
        for (int what = 0; what <= 9; what++) {
            int got = Yards.full().ask("told", 2, what);
            leaves(got, Yards::full, "told", 2, what);
        }
    }

    private void toldRefuses() {
        sentence(9, "NUMBER: there is none such, another what.");
        range(NUMBER, Yards::busy, 0, 0, 2, "told", 0, 0);
        range(NUMBER, Yards::busy, 1, 0, 9, "told", 0, 0);
        range(NUMBER, Yards::full, 0, 0, 4, "told", 0, 9);
        range(NUMBER, Yards::full, 1, 0, 9, "told", 4, 0);
        refuses(NUMBER, Yards::diamond, "told", 0, 0);
        refuses(NUMBER, Yards::busy, "told", 3, 10);
    }

    private void is() {
        sentence(10, "Whether a LOAD is of a KIND: 1, 0.");
        int[][] want = {{1, 0, 0}, {1, 1, 0}, {1, 1, 1}};
        for (int load = 0; load <= 2; load++) {
            for (int kind = 0; kind <= 2; kind++) {
                leaves(want[load][kind], Yards::busy, "is", load, kind);
            }
        }
    }

    private void isRefuses() {
        sentence(10, "NUMBER: there is no such LOAD, KIND.");
        range(NUMBER, Yards::busy, 0, 0, 2, "is", 0, 0);
        range(NUMBER, Yards::busy, 1, 0, 2, "is", 0, 0);
        range(NUMBER, Yards::full, 0, 0, 4, "is", 0, 2);
        refuses(NUMBER, Yards::diamond, "is", 0, 0);
        refuses(NUMBER, Yards::busy, "is", 3, 3);
    }
}
