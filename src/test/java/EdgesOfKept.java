import java.util.List;
import java.util.function.Supplier;

/** Promises 32 and 33: what is kept, and brought back. */
final class EdgesOfKept extends Edges {
    EdgesOfKept(Checks checks, Document document) {
        super(checks, document);
    }

    @Override
    void run() {
        keep();
        keepChangesNothing();
        everyChange();
        back();
        backAgain();
        backRefuses();
    }

    private static final List<Supplier<Yard>> YARDS = List.of(Yard::new, () -> Yards.bare(9), Yards::diamond,
        Yards::apart, Yards::busy, Yards::full);

    /** Nothing of what was is left. */
    private static Yard changed(Yard x) {
        return x.with("net", 3).with("road", 2, 0, 1, 2).with("road", 2, 0, 3, 4).with("load", 2, 2, 0, 9)
            .with("hold", 0, 1).with("send", 0, 1, 8).with("measure", 0, 5);
    }

    private static final String KEEP = "All (net, LOADS, THE SENDING, WAYS that are told, LENGTHS) is kept: 1.";

    private void keep() {
        sentence(32, KEEP);
        for (Supplier<Yard> made : YARDS) {
            due(1, made.get(), "keep");
            sameNow("kept and brought back,", () -> changed(made.get().with("keep")).with("back"), made);
        }
    }

    private void keepChangesNothing() {
        sentence(32, KEEP);
        for (Supplier<Yard> made : YARDS) {
            sameNow("behind keep()", () -> made.get().with("keep"), made);
            sameKept("kept once and twice,", () -> made.get().with("keep").with("keep"), () -> made.get().with("keep"));
        }
    }

    /** One change of each sort behind keep(): each is undone, whatever the call changes. */
    private void everyChange() {
        sentence(32, KEEP);
        Supplier<Yard> small = () -> Yards.busy().with("resize", 0, 1).with("resize", 1, 4).with("resize", 2, 5)
            .with("send", 0, 1, 0).with("keep");
        String[] calls = {"net", "road", "room", "load", "resize", "hold", "send", "fill", "empty", "empty", "measure",
            "ones", "buy", "keep"};
        int[][] numbers = {{4}, {0, 3, 1, 1}, {0, 99}, {2, 3, 0, 1}, {2, 100}, {2, 0}, {0, 3, 9}, {2}, {0}, {-1},
            {0, 0}, {}, {}, {}};
        for (int at = 0; at < calls.length; at++) {
            String call = calls[at];
            int[] a = numbers[at];
            boolean seen = !Look.atAll(small.get().with(call, a)).equals(Look.atAll(small.get()));
            check(Yard.told(call, a) + " changes something", seen ? 1 : 0, call.equals("keep") ? 0 : 1);
            sameKept(Yard.told(call, a) + " leaves", () -> small.get().with(call, a), small);
            sameNow(Yard.told(call, a) + " and back,", () -> small.get().with(call, a).with("back"), small);
        }
    }

    private static final String BACK = "All is as it was kept latest (which stays): 1.";

    private void back() {
        sentence(33, BACK);
        for (Supplier<Yard> made : YARDS) {
            due(1, made.get().with("keep"), "back");
            due(1, changed(made.get().with("keep")), "back");
        }
        // The latest alone counts, be it less or more than what was kept ahead of it.
        sameNow("nothing is kept latest,", () -> Yards.full().with("net", 1).with("keep").with("net", 5).with("back"),
            Yard::new);
        sameNow("a busy one is kept latest,", () -> Yards.busy().with("keep").with("empty", -1).with("back"),
            Yards::busy);
        Yard grown = new Yard().with("keep").with("net", 2).with("road", 0, 1, 1, 1).with("back");
        due(1, grown, "many", 0);
        due(NUMBER, grown, "road", 0, 1, 1, 1);
        due(0, grown, "many", 1);
    }

    private void backAgain() {
        sentence(33, BACK);
        for (Supplier<Yard> made : YARDS) {
            Supplier<Yard> kept = () -> made.get().with("keep");
            sameNow("back twice,", () -> changed(kept.get()).with("back").with("back"), made);
            sameNow("changed and back twice,", () -> changed(changed(kept.get()).with("back")).with("back"), made);
            sameKept("what is kept stays,", () -> changed(changed(kept.get()).with("back")), kept);
        }
        Yard x = Yards.busy();
        for (int round = 0; round < 9; round++) {
            x.with("back");
            due(0, x, "send", 0, 0, 9);
            due(2, x, "hold", 2, 0);
            due(1, x, "measure", 1, 9);
        }
    }

    private void backRefuses() {
        sentence(33, "STATE: nothing is kept.");
        refuses(STATE, Yard::new, "back");
        refuses(STATE, () -> Yards.bare(9), "back");
        refuses(STATE, Yards::diamond, "back");
        refuses(STATE, () -> Yards.longWays(3).with("load", 2, 0, 8, 5).with("hold", 0, 7), "back");
        Yard late = Yards.diamond();
        due(STATE, late, "back");
        due(1, late, "keep");
        due(1, late, "back");
    }
}
