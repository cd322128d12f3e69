import java.util.function.Supplier;

/** Promise 21: one way for each load, at the least price. */
final class EdgesOfOnes extends Edges {
    EdgesOfOnes(Checks checks, Document document) {
        super(checks, document);
    }

    @Override
    void run() {
        justRoom();
        wholeAndHeld();
        leastCost();
        firstOfSeveral();
        becomesTheSending();
        behindAnotherChoice();
        noneSuch();
        noneWithRoom();
    }

    private static final String ONES = "Of all choices of one of THE WAYS for each LOAD (of a HELD one its own) by"
        + " which no ROAD is OVER, each LOAD being sent whole along it, that of the least COST, of several that with"
        + " the lesser WAY of the first LOAD by which they are unlike, becomes THE SENDING: its COST.";

    private static final String NONE_SUCH = "NONE: there is none such, or no LOADS (THE SENDING stays).";

    /** Two posts, with a road of that room for each price. */
    private static Yard priced(int room, int... prices) {
        Yard x = Yards.bare(2);
        for (int price : prices) {
            x.with("road", 0, 1, room, price);
        }
        return x;
    }

    /** Each load is sent whole along one way, and nothing else is sent. */
    private void chosen(Yard x, int... want) {
        for (int load = 0; load < want.length; load++) {
            due(x.ask("told", load, 3), x, "sent", load, want[load]);
            due(1, x, "told", load, 9);
        }
    }

    private void justRoom() {
        sentence(21, ONES);
        Yard x = priced(10, 1, 2).with("load", 0, 0, 1, 4).with("load", 1, 1, 0, 6);
        due(10, x, "ones");
        chosen(x, 0, 0);
        x.with("resize", 1, 7);
        due(4 * 2 + 7, x, "ones");
        chosen(x, 1, 0);
        Yard most = priced(100, 50).with("load", 1, 0, 1, 100);
        due(5000, most, "ones");
        chosen(most, 0);
        due(1, most, "many", 6);
        Yard farthest = Yards.longWays(100).with("load", 0, 0, 8, 100);
        due(40000, farthest, "ones");
        chosen(farthest, 0);
    }

    private void wholeAndHeld() {
        sentence(21, ONES);
        Yard parted = priced(10, 1, 1).with("load", 0, 0, 1, 11).with("room", 1, 11);
        due(11, parted, "ones");
        chosen(parted, 1);
        Yard held = priced(10, 0, 0, 0, 0, 0, 0, 0, 50).with("load", 2, 0, 1, 10).with("hold", 0, 7);
        due(500, held, "ones");
        chosen(held, 7);
        held.with("hold", 0, 0);
        due(0, held, "ones");
        chosen(held, 0);
        // The first takes the dearer way, as the second is held on the other one.
        Yard both = priced(10, 1, 2).with("load", 1, 0, 1, 10).with("load", 2, 0, 1, 10);
        due(30, both, "ones");
        chosen(both, 1, 0);
    }

    private void leastCost() {
        sentence(21, ONES);
        Yard free = priced(10, 0).with("load", 0, 0, 1, 10);
        due(0, free, "ones");
        chosen(free, 0);
        // Less by one than the way ahead of it.
        Yard byOne = priced(1, 2, 1).with("load", 0, 0, 1, 1);
        due(1, byOne, "ones");
        chosen(byOne, 1);
        Yard last = priced(10, 9, 8, 7, 6, 5, 4, 3, 2, 0).with("load", 0, 0, 1, 10);
        due(20, last, "ones");
        chosen(last, 7);
        Yard five = priced(10, 9, 8, 7, 6, 5, 4, 3, 2, 0);
        for (int load = 0; load < 5; load++) {
            five.with("load", load % 2, 0, 1, 10);
        }
        due(200, five, "ones");
        chosen(five, 3, 4, 5, 6, 7);
        five.with("resize", 4, 9);
        due(10 * (2 + 3 + 4 + 5) + 9 * 6, five, "ones");
        chosen(five, 4, 5, 6, 7, 3);
    }

    private void firstOfSeveral() {
        sentence(21, ONES);
        Yard x = Yards.parallel(20);
        for (int load = 0; load < 5; load++) {
            x.with("load", load % 2, load % 2, 1 - load % 2, 10);
        }
        due(150, x, "ones");
        chosen(x, 0, 1, 2, 3, 4);
        for (int load = 0; load < 5; load++) {
            x.with("resize", load, 2);
        }
        due(30, x, "ones");
        chosen(x, 0, 0, 0, 0, 0);
        x.with("resize", 4, 3);
        due(33, x, "ones");
        chosen(x, 0, 0, 0, 0, 1);
        // 0, 1 and 1, 0 cost the same: the first load has the lesser way.
        Yard two = priced(10, 5, 5).with("load", 0, 0, 1, 6).with("load", 0, 0, 1, 6);
        due(60, two, "ones");
        chosen(two, 0, 1);
        Yard uneven = priced(5, 1, 2, 3).with("load", 0, 0, 1, 5).with("load", 0, 0, 1, 5).with("load", 0, 0, 1, 5);
        due(30, uneven, "ones");
        chosen(uneven, 0, 1, 2);
    }

    private void becomesTheSending() {
        sentence(21, ONES);
        Yard x = Yards.parallel(8).with("load", 0, 0, 1, 5).with("load", 1, 0, 1, 5).with("load", 2, 0, 1, 5)
            .with("hold", 2, 7);
        for (int at = 0; at < 24; at++) {
            x.with("send", at / 8, at % 8, 100);
        }
        due(45, x, "ones");
        chosen(x, 0, 0, 7);
        due(15, x, "many", 7);
        due(1, x, "many", 6);
        due(7, x, "told", 2, 8);
        Supplier<Yard> made = () -> Yards.busy().with("resize", 0, 1).with("resize", 2, 1);
        sameKept("a choice leaves", () -> made.get().with("ones"), made);
    }

    /** A dear choice for five loads ahead of it leaves nothing behind. */
    private void behindAnotherChoice() {
        sentence(21, ONES);
        Supplier<Yard> five = () -> {
            Yard x = priced(100, 50, 50, 50, 50, 50, 50, 50, 50);
            for (int load = 0; load < 5; load++) {
                x.with("load", load % 3, 0, 1, 100);
            }
            return x.with("hold", 2, 7);
        };
        Yard x = five.get();
        due(25000, x, "ones");
        chosen(x, 0, 1, 7, 2, 3);
        x.with("net", 2).with("road", 0, 1, 10, 5).with("road", 0, 1, 10, 4).with("load", 0, 0, 1, 10);
        due(40, x, "ones");
        chosen(x, 1);
        x.with("load", 1, 1, 0, 9);
        due(4 * 10 + 5 * 9, x, "ones");
        chosen(x, 1, 0);
        Yard kept = Yards.parallel(8).with("load", 1, 0, 1, 7).with("keep");
        for (int load = 1; load < 5; load++) {
            kept.with("load", 1, 0, 1, 10);
        }
        due(3 * 47, kept, "ones");
        kept.with("back");
        due(21, kept, "ones");
        chosen(kept, 0);
    }

    private void noneSuch() {
        sentence(21, NONE_SUCH);
        refuses(NONE, Yard::new, "ones");
        refuses(NONE, Yards::diamond, "ones");
        refuses(NONE, Yards::apart, "ones");
        refuses(NONE, Yards::busy, "ones");
        refuses(NONE, Yards::full, "ones");
        // One load alone has no way: the first, or the last.
        Supplier<Yard> last = () -> Yards.bare(3).with("road", 0, 1, 100, 1).with("load", 0, 0, 1, 5)
            .with("load", 1, 0, 2, 5).with("send", 0, 0, 3);
        Supplier<Yard> first = () -> Yards.bare(3).with("road", 0, 1, 100, 1).with("load", 2, 0, 2, 5)
            .with("load", 1, 0, 1, 5).with("send", 1, 0, 3);
        refuses(NONE, last, "ones");
        refuses(NONE, first, "ones");
    }

    private void noneWithRoom() {
        sentence(21, NONE_SUCH);
        for (int kind = 0; kind <= 2; kind++) {
            int k = kind;
            refuses(NONE, () -> priced(10, 1).with("load", k, 0, 1, 11).with("send", 0, 0, 7), "ones");
            refuses(NONE, () -> priced(0, 1).with("load", k, 0, 1, 1).with("send", 0, 0, 7), "ones");
            refuses(NONE, () -> priced(10, 1).with("load", k, 0, 1, 5).with("load", k, 1, 0, 6), "ones");
        }
        // There is room on every way but its own.
        refuses(NONE, () -> priced(10, 1, 1).with("room", 0, 4).with("load", 2, 0, 1, 5).with("send", 0, 1, 2), "ones");
        // There is room on the ninth way alone.
        refuses(NONE, () -> Yards.parallel(9).with("room", 8, 11).with("load", 0, 0, 1, 11), "ones");
        // A parted load would go along two ways, but not along one.
        refuses(NONE, () -> priced(10, 1, 1).with("load", 0, 0, 1, 20), "ones");
        Supplier<Yard> six = () -> {
            Yard x = Yards.parallel(4);
            for (int load = 0; load < 5; load++) {
                x.with("load", load % 3, 0, 1, 6);
            }
            return x.with("send", 0, 0, 1);
        };
        refuses(NONE, six, "ones");
    }
}
