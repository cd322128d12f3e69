import java.util.ArrayList;
import java.util.List;

/** All that can be seen of a yard, a row for each answer; a look of each kind stays below 512 calls. */
final class Look {
    private final Yard yard;
    private final List<String> rows = new ArrayList<>();

    private Look(Yard yard) {
        this.yard = yard;
    }

    /** What is seen of the net, the loads, the sending, walls, measures and shares. */
    static List<String> atAll(Yard yard) {
        Look look = new Look(yard);
        look.counts();
        look.roads();
        look.loads();
        return look.rows;
    }

    /** Road by road, which is too much to be seen beside the rest. */
    static List<String> atWays(Yard yard) {
        Look look = new Look(yard);
        int loads = look.see("many", 2);
        for (int load = 0; load < loads; load++) {
            int ways = look.see("told", load, 4);
            for (int i = 0; i < ways; i++) {
                int steps = look.see("roads", load, i);
                for (int k = 0; k < steps; k++) {
                    look.see("way", load, i, k);
                }
            }
        }
        return look.rows;
    }

    /** What is kept, too, shows when it is brought back. */
    static List<String> atKept(Yard yard) {
        Look look = new Look(yard);
        look.see("back");
        look.counts();
        look.roads();
        look.loads();
        return look.rows;
    }

    private int see(String call, int... a) {
        int got = yard.ask(call, a);
        rows.add(Yard.told(call, a) + " = " + got);
        return got;
    }

    private void counts() {
        for (int what = 0; what <= 8; what++) {
            see("many", what);
        }
        for (String call : new String[] {"over", "bars", "barring", "barred", "whole"}) {
            see(call);
        }
    }

    private void roads() {
        int roads = yard.ask("many", 1);
        for (int road = 0; road < roads; road++) {
            for (int what = 0; what <= 6; what++) {
                see("of", road, what);
            }
        }
    }

    private void loads() {
        int loads = yard.ask("many", 2);
        for (int load = 0; load < loads; load++) {
            for (int what = 0; what <= 9; what++) {
                see("told", load, what);
            }
            see("cheap", load);
            see("meets", load);
            see("share", load, 0);
            see("share", load, 1);
            for (int i = 0; i < yard.ask("told", load, 4); i++) {
                see("sent", load, i);
                see("roads", load, i);
                see("price", load, i);
            }
        }
    }
}
