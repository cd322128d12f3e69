import java.util.function.Supplier;

/** The terms of cuts, measures and shares. */
final class EdgesOfBarTerms extends Edges {
    EdgesOfBarTerms(Checks checks, Document document) {
        super(checks, document);
    }

    @Override
    void run() {
        cut();
        wallAndCall();
        bars();
        most();
        measure();
        far();
        measureBars();
        wayOfAShare();
        sharesRise();
        sharesAreFractions();
    }

    /** Five loads of a size, to and fro between two posts. */
    static Yard fiveLoads(Yard x, int one, int other, int size) {
        for (int load = 0; load < 5; load++) {
            x.with("load", load % 3, load % 2 == 0 ? one : other, load % 2 == 0 ? other : one, size);
        }
        return x;
    }

    /** Two posts, 20 roads of room 100. */
    static Yard widest() {
        Yard x = Yards.parallel(20);
        for (int r = 0; r < 20; r++) {
            x.with("room", r, 100);
        }
        return x;
    }

    private void cut() {
        sentence(TERMS, "A CUT is a set of POSTS, told as the sum of 2 to the power of each, not empty, nor of all.");
        for (int n = 2; n <= 9; n++) {
            int posts = n;
            range(NUMBER, () -> Yards.row(posts, 3, 1), 0, 1, (1 << n) - 2, "wall", 0);
            range(NUMBER, () -> Yards.row(posts, 3, 1), 0, 1, (1 << n) - 2, "call", 0);
        }
        for (int cut : new int[] {0, 1, 2, 3, -1, -2, LOW, LOW + 1, HIGH}) {
            refuses(NUMBER, Yard::new, "wall", cut);
            refuses(NUMBER, Yard::new, "call", cut);
        }
        // Post 0 has one road in a row of 9, post 1 has two, and the last has one again.
        Yard x = Yards.row(9, 3, 1);
        due(3, x, "wall", 1);
        due(6, x, "wall", 2);
        due(3, x, "wall", 256);
        due(6, x, "wall", 257);
        due(24, x, "wall", 1 + 4 + 16 + 64 + 256);
    }

    private void wallAndCall() {
        sentence(TERMS, "Its WALL is the ROOM of all ROADS with one end in it, together;"
            + " its CALL the SIZES of all LOADS with one end in it.");
        Yard most = fiveLoads(widest(), 0, 1, 100);
        due(2000, most, "wall", 1);
        due(2000, most, "wall", 2);
        due(500, most, "call", 1);
        due(500, most, "call", 2);
        Yard none = Yards.bare(9);
        due(0, none, "wall", 1);
        due(0, none, "call", 510);
        // Road 0 and load 0 have both ends in the cut of posts 0 and 1, road 2 and load 2 none.
        Yard x = Yards.row(4, 0, 1).with("room", 0, 1).with("room", 1, 10).with("room", 2, 100);
        x.with("load", 0, 0, 1, 1).with("load", 0, 2, 1, 10).with("load", 0, 2, 3, 100);
        due(10, x, "wall", 3);
        due(10, x, "wall", 12);
        due(10, x, "call", 3);
        due(10, x, "call", 12);
    }

    private void bars() {
        sentence(TERMS, "It BARS if its CALL is above its WALL, by how much.");
        Yard x = Yards.parallel(1).with("load", 0, 1, 0, 9);
        due(0, x, "bars");
        due(NONE, x, "barring");
        x.with("resize", 0, 10);
        due(0, x, "bars");
        due(NONE, x, "barring");
        x.with("resize", 0, 11);
        due(1, x, "bars");
        due(1, x, "barring");
        Yard most = fiveLoads(Yards.bare(2), 0, 1, 100);
        due(500, most, "bars");
        due(1, most, "barring");
    }

    private void most() {
        sentence(TERMS, "MOST of a LOAD: the least WALL of CUTS that have the POST from which it goes,"
            + " but not that to which it goes.");
        due(0, Yards.bare(9).with("load", 0, 0, 8, 1), "told", 0, 6);
        due(2000, widest().with("load", 0, 1, 0, 1), "told", 0, 6);
        // The wall of post 2 alone is 0, but that cut doesn't part the load's posts.
        Yard x = Yards.bare(3).with("road", 0, 1, 10, 1).with("load", 0, 0, 1, 1).with("load", 0, 1, 0, 1);
        due(10, x, "told", 0, 6);
        due(10, x, "told", 1, 6);
        Yard narrow = Yards.row(9, 100, 1).with("room", 4, 1).with("load", 0, 0, 8, 100).with("load", 0, 8, 0, 100);
        due(1, narrow, "told", 0, 6);
        due(1, narrow, "told", 1, 6);
        narrow.with("room", 4, 0);
        due(0, narrow, "told", 0, 6);
    }

    private void measure() {
        sentence(TERMS, "A MEASURE gives each ROAD a LENGTH (0 to 20; 1 at first).");
        Yard x = Yards.parallel(20);
        for (int r = 0; r < 20; r++) {
            due(1, x, "of", r, 6);
        }
        range(NUMBER, Yards::busy, 1, 0, 20, "measure", 0, 0);
        range(NUMBER, Yards::full, 1, 0, 20, "measure", 19, 0);
        Yard old = Yards.busy();
        due(20, old, "of", 1, 6);
        old.with("net", 2).with("road", 0, 1, 1, 1).with("road", 0, 1, 1, 1);
        due(1, old, "of", 1, 6);
    }

    private void far() {
        sentence(TERMS, "FAR of a LOAD: the least sum of LENGTHS of a way of its POSTS"
            + " (of any WAY, not of THE WAYS alone).");
        Yard x = Yards.parallel(20).with("load", 0, 0, 1, 1);
        due(1, x, "told", 0, 7);
        for (int r = 0; r < 20; r++) {
            x.with("measure", r, 20);
        }
        due(20, x, "told", 0, 7);
        x.with("measure", 8, 19);
        due(19, x, "told", 0, 7);
        x.with("measure", 19, 0);
        due(0, x, "told", 0, 7);
        Yard longest = Yards.row(9, 1, 1).with("load", 0, 8, 0, 1);
        due(8, longest, "told", 0, 7);
        for (int r = 0; r < 8; r++) {
            longest.with("measure", r, 20);
        }
        due(160, longest, "told", 0, 7);
        // The long way round is the lesser sum.
        longest.with("road", 0, 8, 1, 1).with("measure", 8, 20);
        due(20, longest, "told", 0, 7);
        for (int r = 0; r < 8; r++) {
            longest.with("measure", r, 2);
        }
        due(16, longest, "told", 0, 7);
        due(-1, Yards.apart(), "told", 1, 7);
    }

    private void measureBars() {
        sentence(TERMS, "It BARS if the sum of SIZE times FAR of all LOADS is above the sum of ROOM times LENGTH of all"
            + " ROADS (always if two POSTS of a LOAD have no WAY).");
        Yard x = Yards.row(3, 10, 1).with("load", 0, 0, 2, 4).with("load", 0, 2, 0, 6);
        due(0, x, "barred");
        x.with("room", 1, 9);
        due(1, x, "barred");
        x.with("measure", 0, 0).with("measure", 1, 0);
        due(0, x, "barred");
        Yard most = fiveLoads(Yards.row(9, 0, 1), 0, 8, 100);
        for (int r = 0; r < 8; r++) {
            most.with("measure", r, 20);
        }
        due(80000, most, "barred");
        due(0, Yards.diamond(), "barred");
        due(-2, Yards.apart(), "barred");
        Yard last = widest().with("net", 3).with("road", 0, 1, 100, 1).with("load", 0, 0, 1, 1);
        due(0, last, "barred");
        last.with("load", 0, 1, 2, 1);
        due(-2, last, "barred");
        last.with("measure", 0, 0);
        due(-2, last, "barred");
    }

    private void shared(int above, int below, Yard x, int load) {
        due(above, x, "share", load, 0);
        due(below, x, "share", load, 1);
    }

    private void wayOfAShare() {
        sentence(TERMS, "SHARES: each LOAD goes along one WAY, its FIRST one with an AMOUNT that isn't 0 (of a HELD one"
            + " that which is told, if there is one such; of others THE WAY 0, if there is no such AMOUNT; a LOAD"
            + " without WAYS has the SHARE 0).");
        Supplier<Yard> eight = () -> {
            Yard x = Yards.parallel(8);
            for (int r = 0; r < 8; r++) {
                x.with("room", r, 11 * (r + 1));
            }
            return x;
        };
        for (int kind = 0; kind <= 1; kind++) {
            Yard x = eight.get().with("load", kind, 0, 1, 100);
            shared(11, 1, x, 0);
            x.with("send", 0, 7, 1);
            shared(88, 1, x, 0);
            x.with("send", 0, 6, 100);
            shared(77, 1, x, 0);
            x.with("send", 0, 6, 0).with("send", 0, 7, 0);
            shared(11, 1, x, 0);
        }
        Yard held = eight.get().with("load", 2, 0, 1, 100).with("send", 0, 3, 50);
        shared(11, 1, held, 0);
        held.with("hold", 0, 7);
        shared(88, 1, held, 0);
        for (int load = 1; load <= 3; load++) {
            shared(0, 1, Yards.apart(), load);
        }
        shared(4, 1, Yards.apart(), 0);
    }

    private void sharesRise() {
        sentence(TERMS, "All SHARES rise together from 0; a SHARE rises no more as soon as it is the SIZE of its LOAD,"
            + " or a ROAD of its WAY is full: all SHARES of WAYS that have it are its ROOM together.");
        Yard x = Yards.parallel(1).with("load", 0, 0, 1, 100).with("load", 1, 1, 0, 100);
        shared(5, 1, x, 0);
        shared(5, 1, x, 1);
        x.with("resize", 0, 4);
        shared(4, 1, x, 0);
        shared(6, 1, x, 1);
        x.with("resize", 1, 6);
        shared(6, 1, x, 1);
        due(2, x, "whole");
        x.with("resize", 1, 5);
        shared(5, 1, x, 1);
        x.with("room", 0, 0);
        shared(0, 1, x, 0);
        shared(0, 1, x, 1);
        // Load 0 has both roads; as soon as road 0 is full it rises no more, and load 2 takes what is left.
        Yard row = Yards.row(3, 100, 1).with("room", 0, 2).with("load", 0, 0, 2, 100).with("load", 0, 0, 1, 100)
            .with("load", 0, 1, 2, 100);
        shared(1, 1, row, 0);
        shared(1, 1, row, 1);
        shared(99, 1, row, 2);
        row.with("room", 0, 0);
        shared(0, 1, row, 0);
        shared(100, 1, row, 2);
    }

    private void sharesAreFractions() {
        sentence(TERMS, "SHARES are fractions.");
        Yard five = fiveLoads(Yards.parallel(1), 0, 1, 100);
        for (int room : new int[] {1, 2, 99, 100}) {
            five.with("room", 0, room);
            for (int load = 0; load < 5; load++) {
                shared(room == 100 ? 20 : room, room == 100 ? 1 : 5, five, load);
            }
        }
        // Roads 0 and 1 fill one after the other: halves, then quarters.
        Yard quarters = Yards.row(3, 1, 1).with("room", 1, 2).with("load", 0, 0, 2, 9).with("load", 0, 0, 1, 9)
            .with("load", 0, 1, 2, 9).with("load", 0, 2, 1, 9);
        shared(1, 2, quarters, 0);
        shared(1, 2, quarters, 1);
        shared(3, 4, quarters, 2);
        shared(3, 4, quarters, 3);
        // Thirds, then sixths.
        Yard sixths = Yards.row(3, 1, 1).with("load", 0, 0, 2, 9).with("load", 0, 0, 1, 9).with("load", 0, 0, 1, 9)
            .with("load", 0, 1, 2, 9).with("load", 0, 1, 2, 9).with("room", 1, 2);
        shared(1, 3, sixths, 0);
        shared(5, 6, sixths, 3);
        shared(5, 6, sixths, 4);
    }
}
