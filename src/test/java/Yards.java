/** Yards to ask: with nothing in them, with all that may be, and between. */
final class Yards {
    static final int MOST_POSTS = 9;
    static final int MOST_ROADS = 20;
    static final int MOST_LOADS = 5;
    static final int MOST_WAYS = 8;

    private Yards() {
    }

    /** Posts alone. */
    static Yard bare(int posts) {
        return new Yard().with("net", posts);
    }

    /** Two posts with so many roads between them, of room 10 and price 3. */
    static Yard parallel(int roads) {
        Yard x = bare(2);
        for (int r = 0; r < roads; r++) {
            x.with("road", r % 2, 1 - r % 2, 10, 3);
        }
        return x;
    }

    /** Posts 0 to n - 1 in a row, road r from post r to the next one. */
    static Yard row(int posts, int room, int price) {
        Yard x = bare(posts);
        for (int p = 0; p + 1 < posts; p++) {
            x.with("road", p, p + 1, room, price);
        }
        return x;
    }

    /** 0-1-3 by roads 0, 1; 0-2-3 by 2, 3; 1-2 by 4. */
    static Yard diamond() {
        return bare(4)
            .with("road", 0, 1, 10, 2)
            .with("road", 3, 1, 6, 2)
            .with("road", 0, 2, 5, 1)
            .with("road", 2, 3, 9, 1)
            .with("road", 2, 1, 3, 0);
    }

    /**
     * Road 0 from post 0 to post 1, then two roads from each post to the next one, up to post 4: each of the 8
     * ways from post 0 to post 4 has road 0.
     */
    static Yard bridge(int room) {
        Yard x = bare(5).with("road", 0, 1, room, 1);
        for (int p = 1; p < 4; p++) {
            x.with("road", p, p + 1, 100, 1).with("road", p, p + 1, 100, 1);
        }
        return x;
    }

    /** A row of 9 posts, of the greatest price, two roads between the first ones: 8 ways of 8 roads each. */
    static Yard longWays(int room) {
        Yard x = row(MOST_POSTS, room, 50);
        for (int p = 0; p < 3; p++) {
            x.with("road", p, p + 1, room, 50);
        }
        return x;
    }

    /** A load of each kind whose posts have no way, behind one that has one; as it is, it is kept. */
    static Yard apart() {
        return bare(4)
            .with("road", 0, 1, 10, 2)
            .with("load", 0, 0, 1, 4)
            .with("load", 0, 0, 2, 5)
            .with("load", 1, 2, 1, 6)
            .with("load", 2, 3, 2, 7)
            .with("send", 0, 0, 3)
            .with("keep");
    }

    /** Something of all there is, and something else kept: a change anywhere shows. */
    static Yard busy() {
        return diamond()
            .with("load", 0, 0, 3, 12)
            .with("load", 1, 3, 0, 5)
            .with("load", 2, 1, 2, 9)
            .with("hold", 2, 2)
            .with("send", 0, 1, 5)
            .with("send", 1, 0, 4)
            .with("send", 2, 2, 3)
            .with("measure", 0, 7)
            .with("measure", 4, 0)
            .with("keep")
            .with("send", 0, 0, 6)
            .with("send", 1, 0, 0)
            .with("send", 1, 3, 2)
            .with("hold", 2, 1)
            .with("measure", 1, 20)
            .with("room", 3, 8)
            .with("resize", 0, 13);
    }

    /** As many posts, roads and loads as may be, each load with 8 ways and an amount on each, and all kept. */
    static Yard full() {
        Yard x = bare(MOST_POSTS);
        for (int r = 0; r < MOST_ROADS; r++) {
            x.with("road", r % 9, (r % 9 + 1 + r / 9) % 9, 5 * r, 50 - r);
        }
        for (int load = 0; load < MOST_LOADS; load++) {
            x.with("load", load % 3, load, 8 - load / 2, 100 - load);
        }
        for (int load = 0; load < MOST_LOADS; load++) {
            for (int i = 0; i < MOST_WAYS; i++) {
                x.with("send", load, i, 7 * load + i + 1);
            }
        }
        for (int r = 0; r < MOST_ROADS; r++) {
            x.with("measure", r, MOST_ROADS - r);
        }
        return x.with("hold", 2, 7).with("keep").with("hold", 2, 3).with("send", 4, 7, 0).with("room", 19, 100);
    }
}
