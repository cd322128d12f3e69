import java.util.function.Supplier;

/** The terms of the net and of the sending, and what binds every call. */
final class EdgesOfTerms extends Edges {
    EdgesOfTerms(Checks checks, Document document) {
        super(checks, document);
    }

    @Override
    void run() {
        calls512();
        posts();
        roads();
        loads();
        kinds();
        way();
        orderOfWays();
        first8();
        wayTold();
        amounts();
        used();
        sent();
        over();
        fits();
        fitsByKind();
        cost();
        aRoadComes();
        refusedCalls();
        refusedForWantOfSomething();
        belowZeroButNotRefused();
        severalRefusals();
        constants();
    }

    private void calls512() {
        sentence(TERMS, "An object is used for at most 512 calls after it has been made;"
            + " what later calls answer is free.");
        Yard x = Yards.parallel(1).with("load", 0, 0, 1, 50);
        int last = 0;
        while (x.callsLeft() > 1) {
            int next = (last + 37) % 101;
            due(last, x, "send", 0, 0, next);
            last = next;
        }
        due(last, x, "told", 0, 5);
        check("calls left", x.callsLeft(), 0);
    }

    private void posts() {
        sentence(TERMS, "THE NET has POSTS 0 to n - 1 (n is 1 to 9).");
        for (int n = 1; n <= 9; n++) {
            int posts = n;
            Supplier<Yard> made = () -> Yards.bare(posts);
            due(n, made.get(), "many", 0);
            if (n > 1) {
                due(0, made.get(), "road", 0, n - 1, 1, 1);
                due(0, made.get(), "road", n - 1, 0, 1, 1);
                due(0, made.get(), "load", 0, 0, n - 1, 1);
                due(0, made.get(), "load", 0, n - 1, 0, 1);
            }
            refusesBeyond(NUMBER, made, 0, 0, n - 1, "road", 0, 0, 1, 1);
            refusesBeyond(NUMBER, made, 1, 0, n - 1, "road", 0, 0, 1, 1);
            refusesBeyond(NUMBER, made, 1, 0, n - 1, "load", 0, 0, 0, 1);
            refusesBeyond(NUMBER, made, 2, 0, n - 1, "load", 0, 0, 0, 1);
        }
    }

    private void roads() {
        sentence(TERMS, "ROADS are numbered from 0 as they come, 20 at most; each joins two unlike POSTS, both ways"
            + " (two ROADS may join the same), and has a ROOM (0 to 100) and a PRICE (0 to 50).");
        Yard x = Yards.bare(2);
        for (int r = 0; r < 20; r++) {
            due(r, x, "road", r % 2, 1 - r % 2, r % 2 * 100, r % 3 == 0 ? 0 : 50);
        }
        due(FULL, x, "road", 0, 1, 0, 0);
        due(20, x, "many", 1);
        for (int r = 0; r < 20; r++) {
            due(r % 2 * 100, x, "of", r, 2);
            due(r % 3 == 0 ? 0 : 50, x, "of", r, 3);
        }
        x.with("load", 0, 0, 1, 1).with("load", 0, 1, 0, 1);
        for (int r = 0; r < 8; r++) {
            due(r, x, "way", 0, r, 0);
            due(r, x, "way", 1, r, 0);
        }
        refuses(NUMBER, () -> Yards.bare(2), "road", 1, 1, 0, 0);
    }

    private void loads() {
        sentence(TERMS, "LOADS are numbered from 0 as they come, 5 at most; each goes from a POST to another one,"
            + " has a SIZE (1 to 100) and a KIND: 0 PARTED, 1 ONE, 2 HELD.");
        Yard x = Yards.bare(9);
        for (int load = 0; load < 5; load++) {
            due(load, x, "load", load % 3, load % 2 * 8, 8 - load % 2 * 8, load % 2 == 0 ? 1 : 100);
        }
        due(FULL, x, "load", 0, 0, 8, 1);
        due(5, x, "many", 2);
        for (int load = 0; load < 5; load++) {
            due(load % 3, x, "told", load, 0);
            due(load % 2 * 8, x, "told", load, 1);
            due(8 - load % 2 * 8, x, "told", load, 2);
            due(load % 2 == 0 ? 1 : 100, x, "told", load, 3);
        }
        refuses(NUMBER, () -> Yards.bare(2), "load", 0, 1, 1, 1);
    }

    private void kinds() {
        sentence(TERMS, "(HELD ones are ONE, too; all are PARTED.)");
        for (int kind = 0; kind <= 2; kind++) {
            Yard x = Yards.bare(2).with("load", kind, 0, 1, 1);
            due(1, x, "is", 0, 0);
            due(kind == 0 ? 0 : 1, x, "is", 0, 1);
            due(kind == 2 ? 1 : 0, x, "is", 0, 2);
        }
    }

    private void way() {
        sentence(TERMS, "A WAY of two unlike POSTS is a row of ROADS, each from the POST to which the one ahead of it"
            + " leads, the first from the one, the last to the other one, that comes to no POST twice.");
        Yard none = Yards.bare(2).with("load", 0, 0, 1, 1);
        ways(none, 0);
        // Post 3 is a dead end with two roads, so 0-3-0-1 would come to post 0 twice; 0-1-2-1 comes to post 1 twice.
        Yard x = Yards.bare(4).with("road", 0, 1, 1, 1).with("road", 1, 2, 1, 1).with("road", 2, 0, 1, 1)
            .with("road", 0, 3, 1, 1).with("road", 3, 0, 1, 1).with("load", 0, 0, 1, 1).with("load", 0, 1, 0, 1);
        ways(x, 0, along(0), along(2, 1));
        ways(x, 1, along(0), along(1, 2));
        Yard longest = Yards.row(9, 1, 1).with("load", 0, 0, 8, 1).with("load", 0, 8, 0, 1);
        ways(longest, 0, along(0, 1, 2, 3, 4, 5, 6, 7));
        ways(longest, 1, along(7, 6, 5, 4, 3, 2, 1, 0));
    }

    private void orderOfWays() {
        sentence(TERMS, "WAYS stand by how many ROADS they have, then by the lesser ROAD where they are first unlike.");
        Yard x = Yards.bare(3).with("road", 0, 1, 1, 1).with("road", 0, 1, 1, 1).with("road", 1, 2, 1, 1)
            .with("road", 1, 2, 1, 1).with("load", 0, 0, 2, 1).with("load", 0, 2, 0, 1);
        ways(x, 0, along(0, 2), along(0, 3), along(1, 2), along(1, 3));
        ways(x, 1, along(2, 0), along(2, 1), along(3, 0), along(3, 1));
        x.with("road", 2, 0, 1, 1);
        ways(x, 0, along(4), along(0, 2), along(0, 3), along(1, 2), along(1, 3));
        Yard crossed = Yards.bare(4).with("road", 0, 1, 1, 1).with("road", 0, 2, 1, 1).with("road", 2, 3, 1, 1)
            .with("road", 1, 3, 1, 1).with("load", 0, 0, 3, 1).with("load", 0, 3, 0, 1);
        ways(crossed, 0, along(0, 3), along(1, 2));
        ways(crossed, 1, along(2, 1), along(3, 0));
    }

    private void first8() {
        sentence(TERMS, "THE WAYS of a LOAD are the first 8 of those of its POSTS, numbered from 0 in order.");
        for (int roads : new int[] {0, 1, 7, 8, 9, 20}) {
            Yard x = Yards.parallel(roads).with("load", 0, 1, 0, 1);
            int[][] want = new int[Math.min(roads, 8)][];
            for (int i = 0; i < want.length; i++) {
                want[i] = along(i);
            }
            ways(x, 0, want);
        }
        Yard nine = Yards.bare(3);
        for (int r = 0; r < 6; r++) {
            nine.with("road", r / 3, r / 3 + 1, 1, 1);
        }
        nine.with("load", 0, 0, 2, 1);
        ways(nine, 0, along(0, 3), along(0, 4), along(0, 5), along(1, 3), along(1, 4), along(1, 5), along(2, 3),
            along(2, 4));
        nine.with("road", 2, 0, 1, 1);
        ways(nine, 0, along(6), along(0, 3), along(0, 4), along(0, 5), along(1, 3), along(1, 4), along(1, 5),
            along(2, 3));
    }

    private void wayTold() {
        sentence(TERMS, "A HELD one has a WAY of these that is told (0 at first; it may be that there is none such).");
        due(0, Yards.parallel(8).with("load", 2, 0, 1, 1), "told", 0, 8);
        Yard x = Yards.apart();
        due(0, x, "told", 3, 4);
        due(0, x, "told", 3, 8);
        due(NONE, x, "hold", 3, 0);
        due(0, x, "fill", 3);
        x.with("road", 2, 3, 9, 1);
        due(0, x, "told", 3, 8);
        due(0, x, "hold", 3, 0);
        due(7, x, "fill", 3);
    }

    private void amounts() {
        sentence(TERMS, "THE SENDING has, for each LOAD and each of THE WAYS, an AMOUNT, 0 at first.");
        Yard x = Yards.parallel(20);
        for (int load = 0; load < 5; load++) {
            x.with("load", load % 3, 0, 1, 1);
        }
        for (int at = 0; at < 40; at++) {
            due(0, x, "sent", at / 8, at % 8);
        }
        for (int at = 0; at < 40; at++) {
            due(0, x, "send", at / 8, at % 8, 100 - at);
        }
        for (int at = 0; at < 40; at++) {
            due(100 - at, x, "sent", at / 8, at % 8);
        }
    }

    /** Five loads along all 8 ways of the bridge, so much on each. */
    private static Yard sentOver(Yard bridge, int amount) {
        for (int load = 0; load < 5; load++) {
            bridge.with("load", load % 3, load % 2 * 4, 4 - load % 2 * 4, 100);
            for (int i = 0; i < 8; i++) {
                bridge.with("send", load, i, amount);
            }
        }
        return bridge;
    }

    private void used() {
        sentence(TERMS, "USED of a ROAD: all AMOUNTS of WAYS that have it, together.");
        Yard none = sentOver(Yards.bridge(0), 0);
        Yard all = sentOver(Yards.bridge(0), 100);
        due(0, none, "of", 0, 4);
        due(4000, all, "of", 0, 4);
        for (int r = 1; r < 7; r++) {
            due(0, none, "of", r, 4);
            due(2000, all, "of", r, 4);
        }
        due(0, Yards.parallel(1), "of", 0, 4);
    }

    private void sent() {
        sentence(TERMS, "SENT of a LOAD: its AMOUNTS together.");
        for (int load = 0; load < 5; load++) {
            due(0, sentOver(Yards.bridge(0), 0), "told", load, 5);
            due(800, sentOver(Yards.bridge(0), 100), "told", load, 5);
        }
        due(0, Yards.apart(), "told", 1, 5);
    }

    private void over() {
        sentence(TERMS, "A ROAD is OVER by what it is USED above its ROOM.");
        due(4000, sentOver(Yards.bridge(0), 100), "of", 0, 5);
        due(3900, sentOver(Yards.bridge(100), 100), "of", 0, 5);
        for (int room : new int[] {0, 1, 10, 99, 100}) {
            Yard x = Yards.parallel(1).with("room", 0, room).with("load", 0, 0, 1, 1).with("load", 0, 1, 0, 1);
            x.with("send", 0, 0, room);
            due(0, x, "of", 0, 5);
            x.with("send", 1, 0, 1);
            due(1, x, "of", 0, 5);
            due(0, x, "over");
        }
        due(0, Yards.parallel(1).with("room", 0, 0), "of", 0, 5);
    }

    private static final String FITS = "THE SENDING FITS if SENT of each LOAD is its SIZE, no ROAD is OVER, each ONE"
        + " LOAD has one AMOUNT alone that isn't 0, and each HELD one that of its WAY.";

    private void fits() {
        sentence(TERMS, FITS);
        due(1, new Yard(), "many", 6);
        due(1, Yards.diamond(), "many", 6);
        due(0, Yards.bare(2).with("load", 0, 0, 1, 1), "many", 6);
        for (int size : new int[] {1, 100}) {
            Yard x = Yards.parallel(2).with("room", 0, 100).with("room", 1, 100).with("load", 0, 0, 1, size);
            due(0, x, "many", 6);
            x.with("send", 0, 0, size);
            due(1, x, "many", 6);
            x.with("send", 0, 0, size - 1);
            due(0, x, "many", 6);
            x.with("send", 0, 1, 1);
            due(1, x, "many", 6);
            x.with("send", 0, 1, 2);
            due(0, x, "many", 6);
        }
        Yard last = Yards.parallel(1).with("load", 0, 0, 1, 4).with("load", 0, 0, 1, 6).with("send", 0, 0, 4);
        due(0, last, "many", 6);
        last.with("send", 1, 0, 6);
        due(1, last, "many", 6);
        last.with("room", 0, 9);
        due(0, last, "many", 6);
    }

    private void fitsByKind() {
        sentence(TERMS, FITS);
        for (int kind = 0; kind <= 2; kind++) {
            Yard x = Yards.parallel(8).with("load", kind, 0, 1, 2).with("send", 0, 7, 2);
            due(kind == 2 ? 0 : 1, x, "many", 6);
            x.with("send", 0, 7, 1).with("send", 0, 0, 1);
            due(kind == 0 ? 1 : 0, x, "many", 6);
            x.with("send", 0, 7, 0).with("send", 0, 0, 2);
            due(1, x, "many", 6);
        }
        Yard held = Yards.parallel(8).with("load", 2, 0, 1, 2).with("hold", 0, 7).with("send", 0, 7, 2);
        due(1, held, "many", 6);
        held.with("hold", 0, 6);
        due(0, held, "many", 6);
        due(0, Yards.apart(), "many", 6);
    }

    private void cost() {
        sentence(TERMS, "COST: for each AMOUNT that times the PRICES of the ROADS of its WAY, together.");
        Yard x = Yards.longWays(100);
        for (int load = 0; load < 5; load++) {
            x.with("load", load % 3, 0, 8, 1);
        }
        due(0, x, "many", 5);
        x.with("send", 4, 7, 1);
        due(400, x, "many", 5);
        for (int at = 0; at < 40; at++) {
            x.with("send", at / 8, at % 8, 100);
        }
        due(1600000, x, "many", 5);
        Yard free = Yards.row(2, 0, 0).with("load", 0, 0, 1, 1).with("send", 0, 0, 100);
        due(0, free, "many", 5);
    }

    private void aRoadComes() {
        sentence(TERMS, "Whenever a ROAD comes, THE SENDING and the WAYS told of HELD ones become 0"
            + " (WAYS are others then).");
        Yard x = Yards.busy();
        due(5, x, "road", 0, 1, 0, 0);
        due(0, x, "many", 7);
        due(0, x, "told", 2, 8);
        Supplier<Yard> come = () -> Yards.busy().with("road", 0, 1, 0, 0);
        Supplier<Yard> unsent = () -> Yards.diamond().with("road", 0, 1, 0, 0).with("load", 0, 0, 3, 13)
            .with("load", 1, 3, 0, 5).with("load", 2, 1, 2, 9).with("measure", 0, 7).with("measure", 4, 0)
            .with("measure", 1, 20).with("room", 3, 8);
        sameNow("all but the sending stays,", come, unsent);
        sameKept("a road that comes leaves", come, Yards::busy);
        // No way of the load is another one behind this road, and yet.
        Yard aside = Yards.bare(4).with("road", 0, 1, 9, 1).with("road", 0, 1, 9, 1).with("load", 2, 0, 1, 5)
            .with("hold", 0, 1).with("send", 0, 1, 5).with("road", 2, 3, 0, 0);
        due(0, aside, "told", 0, 5);
        due(0, aside, "told", 0, 8);
        refuses(NUMBER, Yards::busy, "road", 0, 1, 101, 0);
        refuses(FULL, Yards::full, "road", 0, 1, 0, 0);
    }

    private static final String REFUSED = "A call that is refused (answers below 0, where not told otherwise)"
        + " changes nothing.";

    private void refusedCalls() {
        sentence(TERMS, REFUSED);
        Supplier<Yard> made = Yards::busy;
        refuses(NUMBER, made, "net", 0);
        refuses(NUMBER, made, "road", 0, 0, 1, 1);
        refuses(NUMBER, made, "room", 5, 1);
        refuses(NUMBER, made, "of", 5, 0);
        refuses(NUMBER, made, "load", 3, 0, 1, 1);
        refuses(NUMBER, made, "resize", 3, 1);
        refuses(NUMBER, made, "hold", 3, 0);
        refuses(KIND, made, "hold", 1, 0);
        refuses(NONE, made, "hold", 2, 3);
        refuses(NUMBER, made, "told", 3, 0);
        refuses(NUMBER, made, "is", 3, 0);
        refuses(NUMBER, made, "roads", 3, 0);
        refuses(NONE, made, "roads", 0, 4);
        refuses(NUMBER, made, "way", 3, 0, 0);
        refuses(NONE, made, "way", 0, 4, 0);
        refuses(NUMBER, made, "price", 3, 0);
        refuses(NONE, made, "price", 0, 4);
        refuses(NUMBER, made, "cheap", 3);
        refuses(NUMBER, made, "send", 3, 0, 1);
        refuses(NUMBER, made, "send", 0, 0, 101);
        refuses(NONE, made, "send", 0, 4, 1);
        refuses(NUMBER, made, "sent", 3, 0);
        refuses(NONE, made, "sent", 0, 4);
        refuses(NUMBER, made, "fill", 3);
        refuses(NUMBER, made, "empty", 3);
        refuses(NUMBER, made, "many", 9);
        refuses(NONE, made, "ones");
        refuses(NUMBER, made, "wall", 15);
        refuses(NUMBER, made, "call", 15);
        refuses(NUMBER, made, "meets", 3);
        refuses(NUMBER, made, "measure", 5, 1);
        refuses(NUMBER, made, "share", 3, 0);
    }

    private void refusedForWantOfSomething() {
        sentence(TERMS, REFUSED);
        refuses(FULL, Yards::full, "road", 0, 1, 1, 1);
        refuses(FULL, Yards::full, "load", 0, 0, 1, 1);
        refuses(STATE, Yards::full, "buy");
        refuses(NONE, Yards::full, "ones");
        refuses(NONE, Yards::apart, "cheap", 1);
        refuses(NONE, Yards::apart, "over");
        refuses(NONE, Yards::apart, "ones");
        refuses(NONE, Yards::apart, "hold", 3, 0);
        refuses(NONE, Yards::apart, "send", 1, 0, 1);
        refuses(NONE, Yards::diamond, "barring");
        refuses(STATE, Yards::diamond, "back");
    }

    private void belowZeroButNotRefused() {
        sentence(TERMS, REFUSED);
        leaves(-1, Yards::apart, "told", 1, 7);
        leaves(-1, Yards::apart, "told", 2, 8);
        leaves(-2, Yards::apart, "barred");
    }

    private void severalRefusals() {
        sentence(TERMS, "Of several refusals that a call names the first one named is answered.");
        refuses(NUMBER, Yards::full, "road", 0, 0, 1, 1);
        refuses(NUMBER, Yards::full, "road", 0, 1, 1, 51);
        refuses(NUMBER, Yards::full, "load", 0, 0, 0, 1);
        refuses(NUMBER, Yards::full, "load", 3, 0, 1, 1);
        refuses(NUMBER, Yards::busy, "hold", 3, 9);
        refuses(KIND, Yards::busy, "hold", 0, 9);
        refuses(KIND, Yards::apart, "hold", 1, 0);
        refuses(NUMBER, Yards::busy, "roads", 3, 9);
        refuses(NUMBER, Yards::busy, "way", 3, 9, 9);
        refuses(NUMBER, Yards::busy, "price", 3, 9);
        refuses(NUMBER, Yards::apart, "cheap", 4);
        refuses(NUMBER, Yards::busy, "send", 3, 9, 1);
        refuses(NUMBER, Yards::busy, "send", 0, 9, 101);
        refuses(NUMBER, Yards::apart, "send", 1, 0, -1);
        refuses(NUMBER, Yards::busy, "sent", 3, 9);
    }

    private void constants() {
        sentence(TERMS, "The constants: `NUMBER = -1`: A number is none, or none that may be.");
        check("NUMBER", LoadYard.NUMBER, -1);
        refuses(LoadYard.NUMBER, Yards::diamond, "of", 5, 0);
        refuses(LoadYard.NUMBER, Yards::diamond, "room", 0, 101);
        sentence(TERMS, "`FULL = -2`: There are as many as may be.");
        check("FULL", LoadYard.FULL, -2);
        refuses(LoadYard.FULL, Yards::full, "load", 0, 0, 1, 1);
        sentence(TERMS, "`KIND = -3`: A LOAD isn't of that KIND.");
        check("KIND", LoadYard.KIND, -3);
        refuses(LoadYard.KIND, Yards::busy, "hold", 0, 0);
        sentence(TERMS, "`NONE = -4`: There is none, or no WAY.");
        check("NONE", LoadYard.NONE, -4);
        refuses(LoadYard.NONE, Yards::diamond, "over");
        refuses(LoadYard.NONE, Yards::apart, "roads", 1, 0);
        sentence(TERMS, "`STATE = -5`: It is not so.");
        check("STATE", LoadYard.STATE, -5);
        refuses(LoadYard.STATE, Yards::diamond, "back");
    }
}
