/** Each promise by hand: ordinary inputs, the edges that the document names, wrong inputs. */
public final class PromisesTest {
    private static final int LOW = Integer.MIN_VALUE;
    private static final int HIGH = Integer.MAX_VALUE;

    private static final Checks checks = new Checks();
    private static String promise = "";

    public static void main(String[] args) {
        newObject();
        net();
        road();
        room();
        of();
        load();
        resize();
        hold();
        told();
        is();
        roads();
        way();
        wayOrder();
        price();
        cheap();
        send();
        sent();
        fillParted();
        fillOne();
        fillHeld();
        empty();
        many();
        fits();
        over();
        ones();
        onesOrder();
        onesRefused();
        wall();
        call();
        bars();
        barring();
        meets();
        measure();
        barred();
        share();
        shareFractions();
        shareWays();
        whole();
        buy();
        keep();
        back();
        fullYard();
        checks.finish();
    }

    private static void due(String what, long got, long want) {
        checks.due(promise + ": " + what, got, want);
    }

    /** 0-1-3 by roads 0, 1; 0-2-3 by 2, 3; 1-2 by 4. */
    private static LoadYard diamond() {
        LoadYard x = new LoadYard();
        x.net(4);
        x.road(0, 1, 10, 2);
        x.road(3, 1, 6, 2);
        x.road(0, 2, 5, 1);
        x.road(2, 3, 9, 1);
        x.road(2, 1, 3, 0);
        return x;
    }

    /** Posts 0 to n - 1 in a row, a road of that room between each two. */
    private static LoadYard row(int n, int room) {
        LoadYard x = new LoadYard();
        x.net(n);
        for (int p = 0; p + 1 < n; p++) {
            x.road(p, p + 1, room, 1);
        }
        return x;
    }

    private static void newObject() {
        promise = "1 new object";
        LoadYard x = new LoadYard();
        due("posts", x.many(0), 1);
        due("roads", x.many(1), 0);
        due("loads", x.many(2), 0);
        due("back", x.back(), LoadYard.STATE);
        for (int what = 3; what <= 8; what++) {
            due("many " + what, x.many(what), what == 6 ? 1 : 0);
        }
        due("over", x.over(), LoadYard.NONE);
        due("ones", x.ones(), LoadYard.NONE);
        due("bars", x.bars(), 0);
        due("barring", x.barring(), LoadYard.NONE);
        due("barred", x.barred(), 0);
        due("whole", x.whole(), 0);
        due("buy", x.buy(), 0);
        due("empty all", x.empty(-1), 0);
        due("wall 1 of one post", x.wall(1), LoadYard.NUMBER);
        due("keep", x.keep(), 1);
        due("another new object's back", new LoadYard().back(), LoadYard.STATE);
    }

    private static void net() {
        promise = "2 net";
        LoadYard x = diamond();
        x.load(2, 0, 3, 7);
        x.send(0, 1, 3);
        x.hold(0, 1);
        x.measure(0, 9);
        for (int wrong : new int[] {0, -1, 10, LOW, HIGH}) {
            due("net " + wrong, x.net(wrong), LoadYard.NUMBER);
        }
        due("refused: roads stay", x.many(1), 5);
        due("refused: posts stay", x.many(0), 4);
        due("refused: sent stays", x.sent(0, 1), 3);
        due("net 9", x.net(9), 9);
        due("no roads", x.many(1), 0);
        due("no loads", x.many(2), 0);
        due("nothing sent", x.many(7), 0);
        due("the road is gone", x.of(0, 0), LoadYard.NUMBER);
        due("load 0 again", x.load(2, 0, 8, 1), 0);
        due("road 0 again", x.road(8, 0, 1, 1), 0);
        due("way told is 0", x.told(0, 8), 0);
        due("length is 1 again", x.of(0, 6), 1);
        due("ways are new", x.told(0, 4), 1);
        due("net 1", x.net(1), 1);
        due("posts", x.many(0), 1);
    }

    private static void road() {
        promise = "3 road";
        LoadYard x = new LoadYard();
        x.net(3);
        due("first", x.road(0, 1, 0, 0), 0);
        due("second, of the same posts", x.road(1, 0, 100, 50), 1);
        int[][] wrong = {
            {0, 0, 1, 1}, {-1, 0, 1, 1}, {0, -1, 1, 1}, {3, 0, 1, 1}, {0, 3, 1, 1},
            {0, 1, -1, 1}, {0, 1, 101, 1}, {0, 1, 1, -1}, {0, 1, 1, 51}, {LOW, HIGH, LOW, HIGH},
        };
        for (int[] w : wrong) {
            due("wrong road", x.road(w[0], w[1], w[2], w[3]), LoadYard.NUMBER);
        }
        due("refused: no more roads", x.many(1), 2);
        x.load(2, 0, 1, 5);
        x.load(0, 0, 1, 5);
        x.hold(0, 1);
        x.send(0, 1, 4);
        x.send(1, 0, 4);
        x.measure(0, 7);
        x.road(0, 1, 101, 0);
        due("refused: sent stays", x.many(7), 8);
        due("refused: way told stays", x.told(0, 8), 1);
        due("third", x.road(1, 2, 1, 1), 2);
        due("nothing is sent", x.many(7), 0);
        due("way told is 0", x.told(0, 8), 0);
        due("length of another stays", x.of(0, 6), 7);
        due("length of the new one", x.of(2, 6), 1);
        for (int r = 3; r < 20; r++) {
            due("road", x.road(0, 2, 1, 1), r);
        }
        x.send(0, 0, 9);
        due("one too many", x.road(0, 2, 1, 1), LoadYard.FULL);
        due("full, but a number is wrong", x.road(0, 2, 101, 1), LoadYard.NUMBER);
        due("full: sent stays", x.many(7), 9);
        due("20 roads", x.many(1), 20);
    }

    private static void room() {
        promise = "4 room";
        LoadYard x = diamond();
        x.load(0, 0, 3, 9);
        x.send(0, 0, 9);
        due("room", x.room(1, 9), 6);
        due("was", x.room(1, 0), 9);
        due("greatest", x.room(1, 100), 0);
        due("sent stays", x.sent(0, 0), 9);
        int[][] wrong = {{-1, 5}, {5, 5}, {0, -1}, {0, 101}, {LOW, 5}, {HIGH, 5}, {0, HIGH}, {0, LOW}};
        for (int[] w : wrong) {
            due("wrong room", x.room(w[0], w[1]), LoadYard.NUMBER);
        }
        due("stays", x.of(0, 2), 10);
        due("is", x.of(1, 2), 100);
    }

    private static void of() {
        promise = "5 of";
        LoadYard x = diamond();
        x.load(0, 0, 3, 50);
        x.load(0, 3, 0, 50);
        x.send(0, 0, 7);
        x.send(1, 2, 2);
        x.measure(1, 13);
        due("lesser", x.of(1, 0), 1);
        due("greater", x.of(1, 1), 3);
        due("room", x.of(1, 2), 6);
        due("price", x.of(1, 3), 2);
        due("used", x.of(1, 4), 9);
        due("over", x.of(1, 5), 3);
        due("length", x.of(1, 6), 13);
        due("not over", x.of(0, 5), 0);
        due("used by another way", x.of(4, 4), 2);
        due("not used", x.of(3, 4), 0);
        due("what 7", x.of(1, 7), LoadYard.NUMBER);
        due("what -1", x.of(1, -1), LoadYard.NUMBER);
        due("road 5", x.of(5, 0), LoadYard.NUMBER);
        due("road -1", x.of(-1, 0), LoadYard.NUMBER);
        due("far out", x.of(HIGH, LOW), LoadYard.NUMBER);
        x.room(1, 9);
        due("full is not over", x.of(1, 5), 0);
    }

    private static void load() {
        promise = "6 load";
        LoadYard x = diamond();
        int[][] wrong = {
            {0, 0, 0, 1}, {0, -1, 0, 1}, {0, 0, -1, 1}, {0, 4, 0, 1}, {0, 0, 4, 1},
            {-1, 0, 1, 1}, {3, 0, 1, 1}, {0, 0, 1, 0}, {0, 0, 1, 101}, {HIGH, LOW, HIGH, LOW},
        };
        for (int[] w : wrong) {
            due("wrong load", x.load(w[0], w[1], w[2], w[3]), LoadYard.NUMBER);
        }
        due("refused: none", x.many(2), 0);
        due("parted", x.load(0, 0, 3, 1), 0);
        x.send(0, 0, 5);
        due("one", x.load(1, 3, 0, 100), 1);
        due("held", x.load(2, 1, 2, 50), 2);
        due("what was sent stays", x.sent(0, 0), 5);
        due("the new one is not sent", x.told(2, 5), 0);
        due("alike", x.load(0, 0, 3, 1), 3);
        due("fifth", x.load(0, 0, 3, 1), 4);
        due("one too many", x.load(0, 0, 3, 1), LoadYard.FULL);
        due("full, but a number is wrong", x.load(0, 0, 3, 101), LoadYard.NUMBER);
        due("five", x.many(2), 5);
        due("size", x.told(1, 3), 100);
    }

    private static void resize() {
        promise = "7 resize";
        LoadYard x = diamond();
        x.load(0, 0, 3, 9);
        x.send(0, 0, 9);
        due("resize", x.resize(0, 100), 9);
        due("was", x.resize(0, 1), 100);
        due("sent stays", x.sent(0, 0), 9);
        int[][] wrong = {{-1, 5}, {1, 5}, {0, 0}, {0, 101}, {0, -1}, {HIGH, 5}, {LOW, 5}, {0, HIGH}};
        for (int[] w : wrong) {
            due("wrong resize", x.resize(w[0], w[1]), LoadYard.NUMBER);
        }
        due("stays", x.told(0, 3), 1);
    }

    private static void hold() {
        promise = "8 hold";
        LoadYard x = diamond();
        x.load(0, 0, 3, 9);
        x.load(1, 0, 3, 9);
        x.load(2, 0, 3, 9);
        due("hold", x.hold(2, 3), 0);
        due("was", x.hold(2, 1), 3);
        due("parted", x.hold(0, 0), LoadYard.KIND);
        due("one", x.hold(1, 0), LoadYard.KIND);
        due("parted, no such way", x.hold(0, 9), LoadYard.KIND);
        due("no such way", x.hold(2, 4), LoadYard.NONE);
        due("way -1", x.hold(2, -1), LoadYard.NONE);
        due("way far out", x.hold(2, HIGH), LoadYard.NONE);
        due("load 3", x.hold(3, 0), LoadYard.NUMBER);
        due("load -1", x.hold(-1, 0), LoadYard.NUMBER);
        due("stays", x.told(2, 8), 1);
        LoadYard apart = new LoadYard();
        apart.net(2);
        apart.load(2, 0, 1, 9);
        due("no ways", apart.hold(0, 0), LoadYard.NONE);
        due("told all the same", apart.told(0, 8), 0);
    }

    private static void told() {
        promise = "9 told";
        LoadYard x = diamond();
        x.load(1, 3, 0, 12);
        x.load(2, 0, 3, 8);
        x.load(0, 0, 3, 8);
        x.hold(1, 2);
        x.send(1, 0, 4);
        x.send(1, 3, 1);
        x.measure(0, 20);
        x.measure(2, 5);
        x.measure(4, 0);
        due("kind", x.told(0, 0), 1);
        due("from", x.told(0, 1), 3);
        due("to", x.told(0, 2), 0);
        due("size", x.told(0, 3), 12);
        due("ways", x.told(0, 4), 4);
        due("sent", x.told(1, 5), 5);
        due("sent of another", x.told(0, 5), 0);
        due("most", x.told(0, 6), 14);
        due("far", x.told(0, 7), 6);
        due("way told", x.told(1, 8), 2);
        due("way told of one", x.told(0, 8), -1);
        due("way told of parted", x.told(2, 8), -1);
        due("amounts", x.told(1, 9), 2);
        due("what 10", x.told(0, 10), LoadYard.NUMBER);
        due("what -1", x.told(0, -1), LoadYard.NUMBER);
        due("load 3", x.told(3, 0), LoadYard.NUMBER);
        due("load -1", x.told(-1, 0), LoadYard.NUMBER);
        toldFarBeyondTheWays();
        toldWithoutWays();
    }

    private static void toldFarBeyondTheWays() {
        LoadYard x = new LoadYard();
        x.net(3);
        for (int r = 0; r < 8; r++) {
            x.road(0, 2, 1, 1);
            x.measure(r, 9);
        }
        x.road(0, 1, 1, 1);
        x.road(1, 2, 1, 1);
        x.load(0, 0, 2, 1);
        due("8 ways at most", x.told(0, 4), 8);
        due("all of one road", x.roads(0, 7), 1);
        due("far along the ninth way", x.told(0, 7), 2);
    }

    private static void toldWithoutWays() {
        LoadYard x = new LoadYard();
        x.net(3);
        x.road(0, 1, 5, 1);
        x.load(2, 0, 2, 4);
        due("no ways", x.told(0, 4), 0);
        due("most 0", x.told(0, 6), 0);
        due("far -1", x.told(0, 7), -1);
        due("way told, though there is none", x.told(0, 8), 0);
        due("amounts 0", x.told(0, 9), 0);
        x.road(2, 1, 3, 1);
        due("ways after a road came", x.told(0, 4), 1);
        due("most after a road came", x.told(0, 6), 3);
        due("far after a road came", x.told(0, 7), 2);
    }

    private static void is() {
        promise = "10 is";
        LoadYard x = diamond();
        for (int kind = 0; kind < 3; kind++) {
            x.load(kind, 0, 3, 1);
        }
        for (int load = 0; load < 3; load++) {
            for (int kind = 0; kind < 3; kind++) {
                due("load " + load + " kind " + kind, x.is(load, kind), load >= kind ? 1 : 0);
            }
        }
        due("kind 3", x.is(0, 3), LoadYard.NUMBER);
        due("kind -1", x.is(0, -1), LoadYard.NUMBER);
        due("load 3", x.is(3, 0), LoadYard.NUMBER);
        due("load -1", x.is(-1, 0), LoadYard.NUMBER);
    }

    private static void roads() {
        promise = "11 roads";
        LoadYard x = diamond();
        x.load(0, 0, 3, 1);
        int[] many = {2, 2, 3, 3};
        for (int i = 0; i < 4; i++) {
            due("way " + i, x.roads(0, i), many[i]);
        }
        due("way 4", x.roads(0, 4), LoadYard.NONE);
        due("way -1", x.roads(0, -1), LoadYard.NONE);
        due("way far out", x.roads(0, HIGH), LoadYard.NONE);
        due("load 1", x.roads(1, 0), LoadYard.NUMBER);
        due("load -1, way -1", x.roads(-1, -1), LoadYard.NUMBER);
        LoadYard long8 = row(9, 1);
        long8.load(0, 8, 0, 1);
        due("eight roads", long8.roads(0, 0), 8);
        due("the last of them", long8.way(0, 0, 7), 0);
    }

    private static void way() {
        promise = "12 way";
        LoadYard x = diamond();
        x.load(0, 0, 3, 1);
        x.load(0, 3, 0, 1);
        int[][] there = {{0, 1}, {2, 3}, {0, 4, 3}, {2, 4, 1}};
        int[][] back = {{1, 0}, {3, 2}, {1, 4, 2}, {3, 4, 0}};
        for (int i = 0; i < 4; i++) {
            for (int k = 0; k < there[i].length; k++) {
                due("way " + i + " road " + k, x.way(0, i, k), there[i][k]);
                due("way back " + i + " road " + k, x.way(1, i, k), back[i][k]);
            }
            due("beyond way " + i, x.way(0, i, there[i].length), LoadYard.NONE);
        }
        due("road -1", x.way(0, 0, -1), LoadYard.NONE);
        due("road far out", x.way(0, 0, LOW), LoadYard.NONE);
        due("way 4", x.way(0, 4, 0), LoadYard.NONE);
        due("way -1", x.way(0, -1, 0), LoadYard.NONE);
        due("load 2", x.way(2, 0, 0), LoadYard.NUMBER);
        due("load -1", x.way(-1, 9, 9), LoadYard.NUMBER);
    }

    private static void wayOrder() {
        promise = "12 way, order";
        LoadYard x = new LoadYard();
        x.net(4);
        x.load(0, 0, 3, 1);
        x.road(2, 3, 1, 1);
        x.road(1, 3, 1, 1);
        x.road(0, 1, 1, 1);
        x.road(0, 2, 1, 1);
        x.road(0, 1, 1, 1);
        due("the lesser first road comes first", x.way(0, 0, 0), 2);
        due("then the next", x.way(0, 1, 0), 3);
        due("then the other one of the same posts", x.way(0, 2, 0), 4);
        due("three", x.told(0, 4), 3);
        x.road(3, 0, 1, 1);
        due("a shorter one is first, though its road is greater", x.way(0, 0, 0), 5);
        due("the others move up", x.way(0, 1, 0), 2);
        LoadYard stub = row(3, 1);
        stub.load(0, 0, 1, 1);
        due("a way doesn't go on beyond its end", stub.told(0, 4), 1);
    }

    private static void price() {
        promise = "13 price";
        LoadYard x = diamond();
        x.load(0, 0, 3, 1);
        int[] prices = {4, 2, 3, 3};
        for (int i = 0; i < 4; i++) {
            due("way " + i, x.price(0, i), prices[i]);
        }
        due("way 4", x.price(0, 4), LoadYard.NONE);
        due("way -1", x.price(0, -1), LoadYard.NONE);
        due("load 1", x.price(1, 0), LoadYard.NUMBER);
        due("load -1", x.price(-1, -1), LoadYard.NUMBER);
    }

    private static void cheap() {
        promise = "14 cheap";
        LoadYard x = diamond();
        x.load(0, 0, 3, 1);
        x.load(0, 0, 1, 1);
        due("cheapest", x.cheap(0), 1);
        due("0-2-1 is cheaper than 0-1", x.cheap(1), 1);
        due("load 2", x.cheap(2), LoadYard.NUMBER);
        due("load -1", x.cheap(-1), LoadYard.NUMBER);
        LoadYard same = new LoadYard();
        same.net(3);
        same.load(1, 0, 1, 1);
        due("no ways", same.cheap(0), LoadYard.NONE);
        same.road(0, 1, 1, 7);
        same.road(0, 1, 1, 5);
        same.road(0, 1, 1, 5);
        due("the first of several", same.cheap(0), 1);
    }

    private static void send() {
        promise = "15 send";
        LoadYard x = diamond();
        x.load(2, 0, 3, 10);
        due("send", x.send(0, 1, 100), 0);
        due("was", x.send(0, 1, 4), 100);
        due("another way", x.send(0, 2, 5), 0);
        due("amount 101", x.send(0, 1, 101), LoadYard.NUMBER);
        due("amount -1", x.send(0, 1, -1), LoadYard.NUMBER);
        due("way 4", x.send(0, 4, 1), LoadYard.NONE);
        due("way -1", x.send(0, -1, 1), LoadYard.NONE);
        due("way 4, amount 101", x.send(0, 4, 101), LoadYard.NUMBER);
        due("load 1", x.send(1, 0, 1), LoadYard.NUMBER);
        due("load -1", x.send(-1, 0, 1), LoadYard.NUMBER);
        due("in all", x.told(0, 5), 9);
        due("to 0", x.send(0, 1, 0), 4);
        due("left", x.told(0, 5), 5);
    }

    private static void sent() {
        promise = "16 sent";
        LoadYard x = diamond();
        x.load(0, 0, 3, 10);
        x.load(0, 0, 3, 10);
        x.send(1, 3, 8);
        due("sent", x.sent(1, 3), 8);
        due("another way", x.sent(1, 2), 0);
        due("another load", x.sent(0, 3), 0);
        due("way 4", x.sent(1, 4), LoadYard.NONE);
        due("way -1", x.sent(1, -1), LoadYard.NONE);
        due("load 2", x.sent(2, 0), LoadYard.NUMBER);
        due("load -1", x.sent(-1, 0), LoadYard.NUMBER);
    }

    private static void fillParted() {
        promise = "17 fill, parted";
        LoadYard x = diamond();
        x.load(0, 0, 3, 100);
        due("all that goes", x.fill(0), 14);
        int[] amounts = {6, 5, 3, 0};
        for (int i = 0; i < 4; i++) {
            due("way " + i, x.sent(0, i), amounts[i]);
        }
        due("nothing is free", x.fill(0), 0);
        x.room(3, 100);
        x.room(4, 100);
        due("along a way that had some", x.fill(0), 1);
        due("way 2", x.sent(0, 2), 4);
        x.resize(0, 15);
        x.room(0, 100);
        due("is sent", x.fill(0), 0);
        x.resize(0, 3);
        due("more than that is sent", x.fill(0), 0);
        due("and stays", x.told(0, 5), 15);
        x.empty(0);
        x.send(0, 3, 1);
        due("what is left", x.fill(0), 2);
        due("along the first", x.sent(0, 0), 2);
        due("load 1", x.fill(1), LoadYard.NUMBER);
        due("load -1", x.fill(-1), LoadYard.NUMBER);
        fillPastARoadOver();
    }

    private static void fillPastARoadOver() {
        LoadYard x = diamond();
        x.load(0, 0, 3, 20);
        x.load(0, 0, 1, 90);
        x.send(1, 0, 90);
        due("a road that is over has 0 free", x.fill(0), 5);
        due("nothing along the way that has it", x.sent(0, 0), 0);
        due("some along the other one", x.sent(0, 1), 5);
        LoadYard apart = new LoadYard();
        apart.net(2);
        apart.load(0, 0, 1, 9);
        due("no ways", apart.fill(0), 0);
    }

    private static void fillOne() {
        promise = "17 fill, one";
        LoadYard x = diamond();
        x.load(1, 0, 3, 7);
        due("no way has so much", x.fill(0), 0);
        due("nothing sent", x.told(0, 5), 0);
        x.resize(0, 5);
        x.room(1, 4);
        due("whole", x.fill(0), 5);
        due("along the first that has so much", x.sent(0, 1), 5);
        x.resize(0, 9);
        x.room(2, 100);
        due("not more, as an amount isn't 0", x.fill(0), 0);
        x.send(0, 1, 0);
        due("again", x.fill(0), 9);
        due("just as much as is free", x.sent(0, 1), 9);
    }

    private static void fillHeld() {
        promise = "17 fill, held";
        LoadYard x = diamond();
        x.load(2, 0, 3, 8);
        x.hold(0, 2);
        due("as much as is free", x.fill(0), 3);
        due("along its way", x.sent(0, 2), 3);
        due("not along another", x.sent(0, 0), 0);
        x.send(0, 0, 4);
        x.room(4, 50);
        due("as much as is left", x.fill(0), 1);
        due("its way has", x.sent(0, 2), 4);
        due("nothing is left", x.fill(0), 0);
        LoadYard apart = new LoadYard();
        apart.net(2);
        apart.load(2, 0, 1, 9);
        due("no way", apart.fill(0), 0);
    }

    private static void empty() {
        promise = "18 empty";
        LoadYard x = diamond();
        x.load(2, 0, 3, 8);
        x.load(0, 0, 1, 8);
        x.hold(0, 2);
        x.send(0, 0, 4);
        x.send(0, 2, 5);
        x.send(1, 1, 6);
        due("load 2", x.empty(2), LoadYard.NUMBER);
        due("load -2", x.empty(-2), LoadYard.NUMBER);
        due("load far out", x.empty(LOW), LoadYard.NUMBER);
        due("refused: stays", x.many(7), 15);
        due("one", x.empty(0), 9);
        due("the other stays", x.many(7), 6);
        due("again", x.empty(0), 0);
        x.send(0, 3, 7);
        due("all", x.empty(-1), 13);
        due("nothing is left", x.many(7), 0);
        due("the way told stays", x.told(0, 8), 2);
        due("all again", x.empty(-1), 0);
    }

    private static void many() {
        promise = "19 many";
        LoadYard x = diamond();
        x.load(0, 0, 3, 30);
        x.load(1, 0, 1, 11);
        x.send(0, 0, 8);
        x.send(0, 1, 7);
        x.send(1, 0, 11);
        due("posts", x.many(0), 4);
        due("roads", x.many(1), 5);
        due("loads", x.many(2), 2);
        due("roads over", x.many(3), 3);
        due("over together", x.many(4), 9 + 2 + 2);
        due("cost", x.many(5), 8 * 4 + 7 * 2 + 11 * 2);
        due("doesn't fit", x.many(6), 0);
        due("sent", x.many(7), 26);
        due("sizes", x.many(8), 41);
        due("what 9", x.many(9), LoadYard.NUMBER);
        due("what -1", x.many(-1), LoadYard.NUMBER);
        due("what far out", x.many(LOW), LoadYard.NUMBER);
    }

    private static void fits() {
        promise = "19 many, fits";
        LoadYard x = diamond();
        due("no loads", x.many(6), 1);
        x.load(0, 0, 3, 8);
        due("not sent", x.many(6), 0);
        x.send(0, 0, 6);
        x.send(0, 1, 2);
        due("parted", x.many(6), 1);
        x.send(0, 1, 3);
        due("more than its size", x.many(6), 0);
        x.send(0, 1, 1);
        due("less than its size", x.many(6), 0);
        x.send(0, 1, 2);
        x.room(1, 5);
        due("a road is over", x.many(6), 0);
        x.room(1, 6);
        x.load(1, 0, 1, 2);
        x.send(1, 0, 1);
        x.send(1, 1, 1);
        due("a one along two", x.many(6), 0);
        x.send(1, 0, 0);
        x.send(1, 1, 2);
        due("a one along its second", x.many(6), 1);
        x.load(2, 1, 0, 1);
        x.send(2, 0, 1);
        due("a held along its way", x.many(6), 1);
        x.hold(2, 1);
        due("a held along another", x.many(6), 0);
        x.send(2, 0, 0);
        x.send(2, 1, 1);
        due("moved to its way", x.many(6), 1);
        x.resize(2, 2);
        x.room(2, 90);
        x.room(4, 90);
        x.send(2, 0, 1);
        due("a held along two", x.many(6), 0);
    }

    private static void over() {
        promise = "20 over";
        LoadYard x = diamond();
        x.load(0, 0, 3, 30);
        due("none", x.over(), LoadYard.NONE);
        x.send(0, 0, 6);
        due("full is not over", x.over(), LoadYard.NONE);
        x.send(0, 0, 7);
        due("by one", x.over(), 1);
        x.send(0, 0, 11);
        due("the first", x.over(), 0);
        x.room(0, 100);
        x.room(1, 100);
        due("none again", x.over(), LoadYard.NONE);
    }

    private static void ones() {
        promise = "21 ones";
        LoadYard x = diamond();
        due("no loads", x.ones(), LoadYard.NONE);
        x.load(0, 0, 3, 5);
        x.load(1, 0, 3, 5);
        x.send(0, 3, 77);
        due("cost", x.ones(), 5 * 4 + 5 * 2);
        due("the first load takes the lesser way", x.sent(0, 0), 5);
        due("the second the other one", x.sent(1, 1), 5);
        due("what was sent is gone", x.many(7), 10);
        due("fits", x.many(6), 1);
        x.load(2, 0, 1, 1);
        due("the held one goes its way", x.ones(), 30 + 2);
        x.hold(2, 1);
        due("though none has room there", x.ones(), LoadYard.NONE);
        x.room(2, 6);
        due("now it has", x.ones(), 30 + 1);
        due("its own way", x.sent(2, 1), 1);
    }

    private static void onesOrder() {
        promise = "21 ones, order";
        LoadYard x = new LoadYard();
        x.net(2);
        for (int r = 0; r < 4; r++) {
            x.road(0, 1, 10, 3);
        }
        x.load(0, 0, 1, 6);
        x.load(0, 1, 0, 6);
        x.load(0, 0, 1, 4);
        due("cost", x.ones(), 48);
        due("first", x.sent(0, 0), 6);
        due("second", x.sent(1, 1), 6);
        due("third", x.sent(2, 0), 4);
        x.room(0, 5);
        due("cost again", x.ones(), 48);
        due("first again", x.sent(0, 1), 6);
        due("second again", x.sent(1, 2), 6);
        due("third again", x.sent(2, 0), 4);
        x.road(0, 1, 6, 0);
        due("the cheap road for the greatest gain", x.ones(), 30);
        due("the first takes the lesser way", x.sent(0, 1), 6);
        due("the second has the cheap one", x.sent(1, 4), 6);
        due("the third", x.sent(2, 0), 4);
    }

    private static void onesRefused() {
        promise = "21 ones, refused";
        LoadYard x = row(3, 7);
        x.load(0, 0, 2, 4);
        x.load(0, 2, 0, 4);
        x.send(0, 0, 99);
        due("no room for both", x.ones(), LoadYard.NONE);
        due("the sending stays", x.sent(0, 0), 99);
        x.room(0, 8);
        due("one road is too small", x.ones(), LoadYard.NONE);
        x.room(1, 8);
        due("just room", x.ones(), 16);
        x.net(3);
        x.road(0, 1, 50, 1);
        x.load(0, 0, 1, 4);
        x.load(2, 0, 2, 4);
        x.send(0, 0, 3);
        due("a held one without ways", x.ones(), LoadYard.NONE);
        due("the sending stays", x.sent(0, 0), 3);
    }

    private static void wall() {
        promise = "22 wall";
        LoadYard x = diamond();
        int[] walls = {15, 19, 14, 17, 22, 30, 15};
        for (int cut = 1; cut <= 7; cut++) {
            due("cut " + cut, x.wall(cut), walls[cut - 1]);
            due("the rest of cut " + cut, x.wall(15 - cut), walls[cut - 1]);
        }
        for (int wrong : new int[] {0, 15, 16, -1, LOW, HIGH}) {
            due("cut " + wrong, x.wall(wrong), LoadYard.NUMBER);
        }
    }

    private static void call() {
        promise = "23 call";
        LoadYard x = diamond();
        x.load(0, 0, 3, 12);
        x.load(1, 2, 1, 5);
        int[] calls = {12, 5, 17, 5, 17, 0, 12};
        for (int cut = 1; cut <= 7; cut++) {
            due("cut " + cut, x.call(cut), calls[cut - 1]);
            due("the rest of cut " + cut, x.call(15 - cut), calls[cut - 1]);
        }
        for (int wrong : new int[] {0, 15, 16, -1, LOW, HIGH}) {
            due("cut " + wrong, x.call(wrong), LoadYard.NUMBER);
        }
    }

    private static void bars() {
        promise = "24 bars";
        LoadYard x = diamond();
        x.load(0, 0, 3, 14);
        due("none", x.bars(), 0);
        x.load(1, 3, 0, 3);
        due("both ways together", x.bars(), 17 - 14);
        x.load(2, 1, 2, 9);
        due("posts 0 and 1 now", x.bars(), 26 - 14);
        x.room(4, 23);
        due("another cut", x.bars(), 17 - 15);
        LoadYard one = new LoadYard();
        due("one post", one.bars(), 0);
        LoadYard two = row(2, 10);
        two.load(0, 1, 0, 10);
        due("just met", two.bars(), 0);
        two.resize(0, 11);
        due("by one", two.bars(), 1);
    }

    private static void barring() {
        promise = "25 barring";
        LoadYard x = row(4, 10);
        x.load(0, 0, 3, 10);
        due("none", x.barring(), LoadYard.NONE);
        x.resize(0, 14);
        due("the least of several", x.barring(), 1);
        x.room(2, 9);
        due("the one that bars most", x.barring(), 7);
        x.room(1, 9);
        due("the least of those", x.barring(), 3);
        x.load(0, 3, 2, 2);
        due("posts together", x.barring(), 7);
        due("one post", new LoadYard().barring(), LoadYard.NONE);
    }

    private static void meets() {
        promise = "26 meets";
        LoadYard x = row(4, 10);
        x.load(0, 0, 3, 1);
        x.load(0, 3, 0, 1);
        due("the least of several", x.meets(0), 1);
        due("from the other end", x.meets(1), 8);
        x.room(1, 9);
        due("the least wall", x.meets(0), 3);
        due("from the other end", x.meets(1), 12);
        due("most", x.told(0, 6), 9);
        x.room(0, 0);
        x.room(2, 0);
        due("two of wall 0", x.meets(0), 1);
        due("two of wall 0 from the other end", x.meets(1), 8);
        due("load 2", x.meets(2), LoadYard.NUMBER);
        due("load -1", x.meets(-1), LoadYard.NUMBER);
        LoadYard y = diamond();
        y.load(0, 1, 3, 1);
        y.room(2, 0);
        y.room(0, 0);
        due("a post without rooms stays outside the least", y.meets(0), 2);
        y.room(3, 1);
        due("more posts", y.meets(0), 6);
    }

    private static void measure() {
        promise = "27 measure";
        LoadYard x = diamond();
        due("was 1", x.measure(2, 20), 1);
        due("was 20", x.measure(2, 0), 20);
        int[][] wrong = {{-1, 5}, {5, 5}, {2, -1}, {2, 21}, {HIGH, 5}, {LOW, 5}, {2, HIGH}, {2, LOW}};
        for (int[] w : wrong) {
            due("wrong measure", x.measure(w[0], w[1]), LoadYard.NUMBER);
        }
        due("stays", x.of(2, 6), 0);
        due("of another", x.of(1, 6), 1);
    }

    private static void barred() {
        promise = "28 barred";
        LoadYard x = row(3, 10);
        due("no loads", x.barred(), 0);
        x.load(0, 0, 2, 10);
        due("just met", x.barred(), 0);
        x.resize(0, 13);
        due("by 6", x.barred(), 6);
        x.measure(0, 5);
        due("longer", x.barred(), 13 * 6 - 60);
        x.measure(0, 0);
        x.measure(1, 0);
        due("all 0", x.barred(), 0);
        x.net(3);
        x.road(0, 1, 100, 1);
        x.load(0, 0, 1, 1);
        x.load(0, 1, 2, 1);
        due("no way of one load", x.barred(), -2);
        x.road(1, 2, 1, 1);
        due("far less than the rooms", x.barred(), 0);
    }

    private static void share() {
        promise = "29 share";
        LoadYard x = row(3, 9);
        x.load(0, 0, 1, 2);
        x.load(0, 0, 2, 8);
        x.load(0, 2, 1, 10);
        int[] above = {2, 9, 9};
        int[] below = {1, 2, 2};
        for (int load = 0; load < 3; load++) {
            due("above of " + load, x.share(load, 0), above[load]);
            due("below of " + load, x.share(load, 1), below[load]);
        }
        due("what 2", x.share(0, 2), LoadYard.NUMBER);
        due("what -1", x.share(0, -1), LoadYard.NUMBER);
        due("load 3", x.share(3, 0), LoadYard.NUMBER);
        due("load -1", x.share(-1, 0), LoadYard.NUMBER);
        x.room(1, 0);
        due("road without room, above", x.share(1, 0), 0);
        due("road without room, below", x.share(1, 1), 1);
        due("the other one has its size", x.share(0, 0), 2);
        LoadYard apart = new LoadYard();
        apart.net(2);
        apart.load(0, 0, 1, 9);
        due("no ways, above", apart.share(0, 0), 0);
        due("no ways, below", apart.share(0, 1), 1);
    }

    private static void shareFractions() {
        promise = "29 share, fractions";
        LoadYard x = row(3, 7);
        x.room(1, 10);
        for (int load = 0; load < 3; load++) {
            x.load(0, 0, load == 0 ? 2 : 1, 100);
        }
        x.load(0, 1, 2, 100);
        x.load(0, 2, 1, 100);
        due("third of 7, above", x.share(0, 0), 7);
        due("third of 7, below", x.share(0, 1), 3);
        due("half of what is left, above", x.share(3, 0), 23);
        due("half of what is left, below", x.share(3, 1), 6);
        x.room(0, 100);
        x.room(1, 8);
        due("third of 8", x.share(4, 0), 8);
        due("half of the rest of 100", x.share(1, 0), 146);
        due("below it", x.share(1, 1), 3);
        LoadYard five = row(2, 99);
        for (int load = 0; load < 5; load++) {
            five.load(load % 3, load % 2, 1 - load % 2, 100);
        }
        due("fifth of 99, above", five.share(4, 0), 99);
        due("fifth of 99, below", five.share(4, 1), 5);
        five.resize(2, 19);
        due("quarter of the rest, above", five.share(4, 0), 20);
        due("quarter of the rest, below", five.share(4, 1), 1);
        five.resize(2, 18);
        due("quarter of 81, above", five.share(4, 0), 81);
        due("quarter of 81, below", five.share(4, 1), 4);
    }

    private static void shareWays() {
        promise = "29 share, ways";
        LoadYard x = diamond();
        x.load(0, 0, 3, 100);
        due("way 0 at first", x.share(0, 0), 6);
        x.send(0, 3, 1);
        due("the way with an amount", x.share(0, 0), 3);
        x.send(0, 1, 50);
        due("the first of them", x.share(0, 0), 5);
        x.net(2);
        x.road(0, 1, 4, 1);
        x.road(0, 1, 9, 1);
        x.load(2, 0, 1, 100);
        x.send(0, 1, 5);
        due("a held one by the way told, not by amounts", x.share(0, 0), 4);
        x.hold(0, 1);
        due("told another one", x.share(0, 0), 9);
        x.empty(-1);
        due("without amounts", x.share(0, 0), 9);
    }

    private static void whole() {
        promise = "30 whole";
        LoadYard x = row(3, 9);
        due("no loads", x.whole(), 0);
        x.load(0, 0, 1, 2);
        x.load(0, 0, 2, 8);
        x.load(0, 2, 1, 10);
        due("one", x.whole(), 1);
        x.resize(1, 5);
        x.resize(2, 4);
        due("all, a road being full too", x.whole(), 3);
        x.room(0, 6);
        due("not the second", x.whole(), 2);
        x.net(2);
        x.load(0, 0, 1, 1);
        due("without ways", x.whole(), 0);
    }

    private static void buy() {
        promise = "31 buy";
        LoadYard x = diamond();
        x.load(0, 0, 3, 100);
        x.load(0, 0, 3, 100);
        due("nothing is over", x.buy(), 0);
        x.send(0, 0, 60);
        x.send(1, 0, 40);
        due("up to 100", x.buy(), 90 + 94);
        due("room of the first", x.of(0, 2), 100);
        due("room of the second", x.of(1, 2), 100);
        due("of another", x.of(2, 2), 5);
        due("none is over", x.over(), LoadYard.NONE);
        x.send(1, 0, 41);
        x.send(1, 1, 30);
        due("one would be above", x.buy(), LoadYard.STATE);
        due("nothing is bought", x.of(2, 2), 5);
        x.room(0, 0);
        x.room(1, 0);
        due("one would be above 100, though it is less now", x.buy(), LoadYard.STATE);
    }

    private static void keep() {
        promise = "32 keep";
        LoadYard x = diamond();
        x.load(2, 0, 3, 8);
        x.hold(0, 2);
        x.send(0, 3, 5);
        x.measure(1, 7);
        due("keep", x.keep(), 1);
        x.send(0, 3, 6);
        x.hold(0, 1);
        x.measure(1, 8);
        x.room(0, 99);
        x.resize(0, 9);
        x.load(0, 1, 0, 4);
        x.back();
        due("sent", x.sent(0, 3), 5);
        due("way told", x.told(0, 8), 2);
        due("length", x.of(1, 6), 7);
        due("room", x.of(0, 2), 10);
        due("size", x.told(0, 3), 8);
        due("loads", x.many(2), 1);
        x.room(0, 98);
        due("keep again", x.keep(), 1);
        x.room(0, 97);
        x.back();
        due("kept latest", x.of(0, 2), 98);
    }

    private static void back() {
        promise = "33 back";
        LoadYard x = diamond();
        due("nothing is kept", x.back(), LoadYard.STATE);
        due("nothing changed", x.many(1), 5);
        x.load(2, 0, 3, 8);
        x.load(1, 3, 1, 20);
        x.hold(0, 3);
        x.send(1, 2, 9);
        x.keep();
        x.net(2);
        x.road(0, 1, 1, 1);
        x.load(0, 0, 1, 1);
        x.told(0, 4);
        for (int round = 0; round < 2; round++) {
            due("back", x.back(), 1);
            due("posts", x.many(0), 4);
            due("roads", x.many(1), 5);
            due("loads", x.many(2), 2);
            due("kind", x.told(1, 0), 1);
            due("from", x.told(1, 1), 3);
            due("to", x.told(1, 2), 1);
            due("ways", x.told(0, 4), 4);
            due("way told", x.told(0, 8), 3);
            due("sent", x.sent(1, 2), 9);
            due("used", x.of(2, 4), 9);
            due("price", x.of(0, 3), 2);
            due("ends", x.of(3, 0) * 10 + x.of(3, 1), 23);
            x.road(0, 3, 2, 2);
            due("a road came", x.told(0, 4), 5);
            x.net(9);
        }
        due("net changes nothing that is kept", x.back(), 1);
        due("roads", x.many(1), 5);
    }

    /** As many posts, roads and loads as may be, each used to its edge. */
    private static void fullYard() {
        promise = "all, at the edge";
        LoadYard x = row(9, 100);
        for (int r = 8; r < 20; r++) {
            x.road(8, 0, 100, 50);
        }
        for (int load = 0; load < 5; load++) {
            x.load(0, 0, 8, 100);
        }
        for (int load = 0; load < 5; load++) {
            due("8 ways", x.told(load, 4), 8);
            for (int i = 0; i < 8; i++) {
                due("send", x.send(load, i, 100), 0);
            }
        }
        due("used", x.of(15, 4), 500);
        due("not used", x.of(16, 4), 0);
        due("roads over", x.many(3), 8);
        due("over", x.many(4), 3200);
        due("cost", x.many(5), 200000);
        due("sent", x.many(7), 4000);
        due("sizes", x.many(8), 500);
        due("buy", x.buy(), LoadYard.STATE);
        due("share", x.share(4, 0), 20);
        due("whole", x.whole(), 0);
        due("most", x.told(4, 6), 1300);
        due("meets", x.meets(4), 1);
        due("wall of all but the last", x.wall(255), 1300);
        due("call of all but the last", x.call(255), 500);
        due("greatest cut", x.wall(510), 1300);
        due("no cut", x.wall(511), LoadYard.NUMBER);
        due("bars", x.bars(), 0);
        due("barred", x.barred(), 0);
        due("keep", x.keep(), 1);
        due("empty", x.empty(-1), 4000);
        due("ones", x.ones(), 25000);
        due("the last goes along the fifth", x.sent(4, 4), 100);
        due("back", x.back(), 1);
        due("sent again", x.many(7), 4000);
    }
}
