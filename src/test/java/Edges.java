import java.util.List;
import java.util.function.Supplier;

/** What tests of boundary cases share: each names a sentence of the document, then asks what it says. */
abstract class Edges {
    static final int NUMBER = -1;
    static final int FULL = -2;
    static final int KIND = -3;
    static final int NONE = -4;
    static final int STATE = -5;
    static final int TERMS = Document.TERMS;
    static final int LOW = Integer.MIN_VALUE;
    static final int HIGH = Integer.MAX_VALUE;

    private final Checks checks;
    private final Document document;
    private String sentence = "";

    Edges(Checks checks, Document document) {
        this.checks = checks;
        this.document = document;
    }

    abstract void run();

    String sentence() {
        return sentence;
    }

    /** Of what the checks behind it are tests. */
    void sentence(int section, String words) {
        sentence = Document.title(section) + ", \"" + words + "\"";
        check("stands in the document", document.name(section, words) ? 1 : 0, 1);
    }

    void check(String what, long got, long want) {
        checks.due(sentence + ": " + what, got, want);
    }

    void due(int want, Yard x, String call, int... a) {
        check(Yard.told(call, a), x.ask(call, a), want);
    }

    /** The load has these ways and no other one. */
    void ways(Yard x, int load, int[]... want) {
        due(want.length, x, "told", load, 4);
        for (int i = 0; i < want.length; i++) {
            due(want[i].length, x, "roads", load, i);
            for (int k = 0; k < want[i].length; k++) {
                due(want[i][k], x, "way", load, i, k);
            }
            due(NONE, x, "way", load, i, want[i].length);
        }
        due(NONE, x, "roads", load, want.length);
    }

    static int[] along(int... roads) {
        return roads;
    }

    /** The answer is due, and nothing has changed behind it, kept things neither. */
    void leaves(int want, Supplier<Yard> made, String call, int... a) {
        due(want, made.get(), call, a);
        Supplier<Yard> asked = () -> {
            Yard x = made.get();
            x.ask(call, a);
            return x;
        };
        String told = "behind " + Yard.told(call, a);
        sameNow(told, asked, made);
        sameKept(told, asked, made);
    }

    void refuses(int want, Supplier<Yard> made, String call, int... a) {
        check("a refusal is below 0", want < 0 ? 1 : 0, 1);
        leaves(want, made, call, a);
    }

    /** Both yards look alike, ways and all, but for what is kept. */
    void sameNow(String what, Supplier<Yard> got, Supplier<Yard> want) {
        same(what, Look.atAll(got.get()), Look.atAll(want.get()));
        same(what, Look.atWays(got.get()), Look.atWays(want.get()));
    }

    void sameKept(String what, Supplier<Yard> got, Supplier<Yard> want) {
        same(what + ", kept", Look.atKept(got.get()), Look.atKept(want.get()));
    }

    private void same(String what, List<String> got, List<String> want) {
        String first = "";
        int unlike = 0;
        for (int at = 0; at < Math.max(got.size(), want.size()); at++) {
            String one = at < got.size() ? got.get(at) : "nothing";
            String other = at < want.size() ? want.get(at) : "nothing";
            if (!one.equals(other)) {
                unlike++;
                first = first.isEmpty() ? " " + one + ", where " + other + " is due;" : first;
            }
        }
        check(what + first + " how many answers are unlike", unlike, 0);
    }

    /** Argument 'at' may be least to most: these are taken, and what is beyond them is refused. */
    void range(int refusal, Supplier<Yard> made, int at, int least, int most, String call, int... a) {
        taken(made, at, least, call, a);
        taken(made, at, most, call, a);
        refusesBeyond(refusal, made, at, least, most, call, a);
    }

    /** Argument 'at' is beyond what it may be, and the other ones are what they are: refused. */
    void refusesBeyond(int refusal, Supplier<Yard> made, int at, int least, int most, String call, int... a) {
        for (int wrong : beyond(least, most)) {
            refuses(refusal, made, call, put(a, at, wrong));
        }
    }

    private void taken(Supplier<Yard> made, int at, int number, String call, int... a) {
        int got = made.get().ask(call, put(a, at, number));
        check(Yard.told(call, put(a, at, number)) + " is taken, with " + got, got >= 0 ? 1 : 0, 1);
    }

    /** The first beyond each end, ints at the ends of their range, and some that are alike in their low bits. */
    private static int[] beyond(int least, int most) {
        return new int[] {least - 1, most + 1, least - 256, most + 256, least + 65536, LOW, LOW + least, HIGH,
            HIGH - 1, 1 << 30};
    }

    private static int[] put(int[] a, int at, int number) {
        int[] b = a.clone();
        b[at] = number;
        return b;
    }
}
