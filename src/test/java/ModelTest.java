import java.util.Arrays;
import java.util.Random;

/** Runs of calls, always the same ones, on LoadYard and on PlainYard: each answer has to be the same. */
public final class ModelTest {
    private static final int RUNS = 3000;
    private static final int CALLS = 140;
    private static final int MOST_CALLS = 512;

    private static final String[] NAMES = {
        "net", "road", "room", "of", "load", "resize", "hold", "told", "is", "roads", "way", "price", "cheap",
        "send", "sent", "fill", "empty", "many", "over", "ones", "wall", "call", "bars", "barring", "meets",
        "measure", "barred", "share", "whole", "buy", "keep", "back",
    };
    /** How often each comes, in the order of the names. */
    private static final int[] OFTEN = {
        0, 3, 8, 6, 4, 8, 8, 8, 2, 3, 6, 3, 3,
        20, 5, 16, 4, 10, 4, 12, 3, 3, 5, 5, 5,
        8, 5, 12, 4, 3, 2, 2,
    };

    private final Checks checks;
    private final Random random;
    private final LoadYard yard = new LoadYard();
    private final PlainYard plain = new PlainYard();
    private final StringBuilder story = new StringBuilder();
    private int calls = 0;
    private int posts = 1;

    private ModelTest(Checks checks, long seed) {
        this.checks = checks;
        this.random = new Random(seed);
    }

    public static void main(String[] args) {
        Checks checks = new Checks();
        for (int run = 0; run < RUNS && !checks.tooManyWrong(); run++) {
            new ModelTest(checks, run).run();
        }
        checks.finish();
    }

    private void run() {
        build();
        for (int c = 0; c < CALLS; c++) {
            step();
        }
        lookAtAll();
        if (calls > MOST_CALLS) {
            throw new IllegalStateException("a run may have " + MOST_CALLS + " calls, not " + calls);
        }
    }

    private int upTo(int most) {
        return random.nextInt(most + 1);
    }

    /** Mostly a number that may be, now and then one beside, or one far out. */
    private int number(int least, int most) {
        int dice = random.nextInt(40);
        if (dice == 0) {
            return least - 1;
        }
        if (dice == 1) {
            return most + 1;
        }
        if (dice == 2) {
            return random.nextBoolean() ? random.nextInt() : random.nextBoolean() ? Integer.MIN_VALUE : Integer.MAX_VALUE;
        }
        return least + upTo(most - least);
    }

    private int rooms() {
        return random.nextInt(3) == 0 ? number(0, 100) : number(0, 12);
    }

    private int sizes() {
        return random.nextInt(3) == 0 ? number(1, 100) : number(1, 9);
    }

    private int prices() {
        return random.nextBoolean() ? number(0, 50) : number(0, 2);
    }

    private void build() {
        posts = random.nextInt(8) == 0 ? 1 + upTo(8) : 2 + upTo(random.nextBoolean() ? 3 : 7);
        call(0, posts);
        // Now and then so many that the last are refused, as some are for a wrong number.
        int roads = random.nextInt(4) == 0 ? upTo(35) : posts - 1 + upTo(9);
        int loads = upTo(7);
        for (int r = 0; r < roads; r++) {
            newRoad();
        }
        for (int l = 0; l < loads; l++) {
            newLoad();
        }
    }

    private void newRoad() {
        call(1, number(0, posts - 1), number(0, posts - 1), rooms(), prices());
    }

    private void newLoad() {
        call(4, number(0, 2), number(0, posts - 1), number(0, posts - 1), sizes());
    }

    private int pick() {
        // Rarely, as all that was built is gone then.
        if (random.nextInt(150) == 0) {
            return 0;
        }
        int all = 0;
        for (int often : OFTEN) {
            all += often;
        }
        int dice = random.nextInt(all);
        int which = 0;
        while (dice >= OFTEN[which]) {
            dice -= OFTEN[which++];
        }
        return which;
    }

    private int aLoad() {
        return number(0, Math.max(0, plain.many(2) - 1));
    }

    private int aRoad() {
        return number(0, Math.max(0, plain.many(1) - 1));
    }

    private int aWay() {
        return random.nextBoolean() ? number(0, 2) : number(0, 7);
    }

    private void step() {
        int which = pick();
        switch (NAMES[which]) {
            case "net": build(); break;
            case "road": newRoad(); break;
            case "room": call(which, aRoad(), rooms()); break;
            case "of": call(which, aRoad(), number(0, 6)); break;
            case "load": newLoad(); break;
            case "resize": call(which, aLoad(), sizes()); break;
            case "hold": case "roads": case "price": case "sent": call(which, aLoad(), aWay()); break;
            case "told": call(which, aLoad(), number(0, 9)); break;
            case "is": call(which, aLoad(), number(0, 2)); break;
            case "way": call(which, aLoad(), aWay(), number(0, 4)); break;
            case "send": call(which, aLoad(), aWay(), random.nextInt(4) == 0 ? number(0, 100) : number(0, 9)); break;
            case "cheap": case "fill": case "meets": call(which, aLoad()); break;
            case "empty": call(which, random.nextInt(3) == 0 ? -1 : aLoad()); break;
            case "many": call(which, number(0, 8)); break;
            case "wall": case "call": call(which, number(0, (1 << posts) - 1)); break;
            case "measure": call(which, aRoad(), number(0, 20)); break;
            case "share": call(which, aLoad(), number(0, 1)); break;
            default: call(which); break;
        }
        posts = plain.many(0);
    }

    /** All that can be asked of roads and loads, so that a change that isn't due shows. */
    private void lookAtAll() {
        for (int road = 0; road < plain.many(1); road++) {
            for (int what = 0; what <= 6; what++) {
                call(3, road, what);
            }
        }
        for (int load = 0; load < plain.many(2); load++) {
            for (int what = 0; what <= 9; what++) {
                call(7, load, what);
            }
            for (int i = 0; i < plain.told(load, 4); i++) {
                call(14, load, i);
            }
            call(27, load, 0);
            call(27, load, 1);
        }
        for (int what = 0; what <= 8; what++) {
            call(17, what);
        }
        call(22);
        call(26);
    }

    private void call(int which, int... a) {
        calls++;
        String told = NAMES[which] + Arrays.toString(a);
        int got = ask(which, a);
        int want = askPlain(which, a);
        story.append(told).append(" = ").append(want).append("; ");
        if (got != want) {
            System.out.println(story);
        }
        checks.due(told, got, want);
    }

    private int ask(int which, int[] a) {
        switch (NAMES[which]) {
            case "net": return yard.net(a[0]);
            case "road": return yard.road(a[0], a[1], a[2], a[3]);
            case "room": return yard.room(a[0], a[1]);
            case "of": return yard.of(a[0], a[1]);
            case "load": return yard.load(a[0], a[1], a[2], a[3]);
            case "resize": return yard.resize(a[0], a[1]);
            case "hold": return yard.hold(a[0], a[1]);
            case "told": return yard.told(a[0], a[1]);
            case "is": return yard.is(a[0], a[1]);
            case "roads": return yard.roads(a[0], a[1]);
            case "way": return yard.way(a[0], a[1], a[2]);
            case "price": return yard.price(a[0], a[1]);
            case "cheap": return yard.cheap(a[0]);
            case "send": return yard.send(a[0], a[1], a[2]);
            case "sent": return yard.sent(a[0], a[1]);
            case "fill": return yard.fill(a[0]);
            case "empty": return yard.empty(a[0]);
            case "many": return yard.many(a[0]);
            case "over": return yard.over();
            case "ones": return yard.ones();
            case "wall": return yard.wall(a[0]);
            case "call": return yard.call(a[0]);
            case "bars": return yard.bars();
            case "barring": return yard.barring();
            case "meets": return yard.meets(a[0]);
            case "measure": return yard.measure(a[0], a[1]);
            case "barred": return yard.barred();
            case "share": return yard.share(a[0], a[1]);
            case "whole": return yard.whole();
            case "buy": return yard.buy();
            case "keep": return yard.keep();
            default: return yard.back();
        }
    }

    private int askPlain(int which, int[] a) {
        switch (NAMES[which]) {
            case "net": return plain.net(a[0]);
            case "road": return plain.road(a[0], a[1], a[2], a[3]);
            case "room": return plain.room(a[0], a[1]);
            case "of": return plain.of(a[0], a[1]);
            case "load": return plain.load(a[0], a[1], a[2], a[3]);
            case "resize": return plain.resize(a[0], a[1]);
            case "hold": return plain.hold(a[0], a[1]);
            case "told": return plain.told(a[0], a[1]);
            case "is": return plain.is(a[0], a[1]);
            case "roads": return plain.roads(a[0], a[1]);
            case "way": return plain.way(a[0], a[1], a[2]);
            case "price": return plain.price(a[0], a[1]);
            case "cheap": return plain.cheap(a[0]);
            case "send": return plain.send(a[0], a[1], a[2]);
            case "sent": return plain.sent(a[0], a[1]);
            case "fill": return plain.fill(a[0]);
            case "empty": return plain.empty(a[0]);
            case "many": return plain.many(a[0]);
            case "over": return plain.over();
            case "ones": return plain.ones();
            case "wall": return plain.wall(a[0]);
            case "call": return plain.call(a[0]);
            case "bars": return plain.bars();
            case "barring": return plain.barring();
            case "meets": return plain.meets(a[0]);
            case "measure": return plain.measure(a[0], a[1]);
            case "barred": return plain.barred();
            case "share": return plain.share(a[0], a[1]);
            case "whole": return plain.whole();
            case "buy": return plain.buy();
            case "keep": return plain.keep();
            default: return plain.back();
        }
    }
}
