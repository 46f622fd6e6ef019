/** The boundary cases of promises 32 and 33. */
public final class ToldEdgesTest {
    private static final Edges EDGES = new Edges(32, 33);
    private static final int MIN = Case.MIN;
    private static final int MAX = Case.MAX;
    private static final int IT = Case.IT;
    private static final int NONE = Case.NONE;
    private static final int OUTSIDE = Case.OUTSIDE;

    public static void main(String[] args) {
        told();
        toldBounds();
        digestOfNew();
        digestOfParts();
        digestOfMost();
        EDGES.end();
    }

    private static long mixed(long... numbers) {
        long h = 181;
        for (long number : numbers) {
            h = 31 * h + number;
        }
        return h;
    }

    private static void told() {
        EDGES.test(32, "OUTSIDE: what is 0 at least", x -> {
            x.filled();
            x.due(4, "told", 0);
            x.eachRefused(OUTSIDE, new int[] {-1, -2, MIN}, "told", IT);
        });
        EDGES.test(32, "OUTSIDE: what is 3 at most", x -> {
            x.filled();
            x.due(1, "told", 3);
            x.eachRefused(OUTSIDE, new int[] {4, 5, MAX}, "told", IT);
        });
        EDGES.test(32, "each has its own", x -> {
            x.filled();
            x.due(4, "told", 0);
            x.due(3, "told", 1);
            x.due(6, "told", 2);
            x.due(1, "told", 3);
        });
    }

    private static void toldBounds() {
        EDGES.test(32, "0: from one number to twenty-four, own() too", x -> {
            x.due(1, "told", 0);
            x.ready("filter", 24);
            x.due(24, "told", 0);
            x.ready("size", 0, 16);
            x.ready("own", 0);
            x.due(16, "told", 0);
            x.ready("own", 1);
            x.due(1, "told", 0);
        });
        EDGES.test(32, "1: from one REST to four", x -> {
            x.due(1, "told", 1);
            x.ready("rests", 4);
            x.due(4, "told", 1);
            x.ready("rests", 1);
            x.due(1, "told", 1);
        });
        EDGES.test(32, "2: from none to sixty-four", x -> {
            x.due(0, "told", 2);
            for (int i = 1; i <= 64; i++) {
                x.ready("put", 0);
                x.due(i, "told", 2);
            }
            x.refused(Case.FULL, "put", 0);
            x.due(64, "told", 2);
            x.ready("empty");
            x.due(0, "told", 2);
        });
        EDGES.test(32, "3: from none to thirty, and no refused one", x -> {
            x.due(0, "told", 3);
            x.refused(OUTSIDE, "best", 0, 13);
            for (int i = 1; i <= 30; i++) {
                x.ready("best", 0, 2);
                x.due(i, "told", 3);
            }
            x.refused(Case.FULL, "best", 0, 2);
            x.due(30, "told", 3);
        });
        EDGES.test(32, "3: size() and made() are no best()", x -> {
            x.ready("best", 0, 5);
            x.ready("made", 0, 0, 1);
            x.ready("size", 0, 5);
            x.due(1, "told", 3);
        });
    }

    private static void digestOfNew() {
        EDGES.test(33, "of a new one: an empty ROW gives no number, what is missed gives -1", x ->
            x.due(mixed(1, 0, 1, 0, 1, 0, 1, 0, 1, 0, 1, 0, 1, 1, 1, 2, -1, 0), "digest"));
        EDGES.test(33, "asked twice, it is the same", x -> {
            x.ready("put", 7);
            long want = mixed(1, 0, 1, 0, 1, 0, 1, 0, 1, 0, 1, 0, 1, 1, 1, 2, -1, 7, 0);
            x.due(want, "digest");
            x.due(want, "digest");
        });
        EDGES.test(33, "as longs: it does not wrap at the bounds of an int", x -> {
            PulseSigns fresh = new PulseSigns();
            x.same(0, fresh.digest() == (int) fresh.digest() ? 1 : 0, "digest() as an int");
            x.due(mixed(1, 0, 1, 0, 1, 0, 1, 0, 1, 0, 1, 0, 1, 1, 1, 2, -1, 0), "digest");
        });
    }

    private static void digestOfParts() {
        EDGES.test(33, "each SIGN's length and TURNS, in order", x -> {
            for (int c = 0; c <= 5; c++) {
                x.sign(c, c % 4, 3 - c % 4);
            }
            x.due(mixed(2, 0, 3, 2, 1, 2, 2, 2, 1, 2, 3, 0, 2, 0, 3, 2, 1, 2, 1, 1, 1, 2, -1, 0), "digest");
        });
        EDGES.test(33, "no TURN that was cut off", x -> {
            x.sign(0, 3, 3, 3);
            x.ready("size", 0, 1);
            x.due(new PulseSigns().digest(), "digest");
        });
        EDGES.test(33, "THE FILTER's numbers below 0, and none that was cut off", x -> {
            x.weights(-50, 7, 50, -1);
            x.due(mixed(1, 0, 1, 0, 1, 0, 1, 0, 1, 0, 1, 0, 4, -50, 7, 50, -1, 1, 2, -1, 0), "digest");
            x.weights(-50);
            x.due(mixed(1, 0, 1, 0, 1, 0, 1, 0, 1, 0, 1, 0, 1, -50, 1, 2, -1, 0), "digest");
        });
        EDGES.test(33, "of each REST P and what is READ, and of none that was cut off", x -> {
            x.rests(60, 3, 4, 5);
            x.ready("fold", 59);
            x.ready("read", 1, NONE);
            x.due(mixed(1, 0, 1, 0, 1, 0, 1, 0, 1, 0, 1, 0, 1, 1, 4, 60, 59, 3, -1, 4, 3, 5, 4, 0), "digest");
            x.ready("rests", 1);
            x.due(new PulseSigns().digest(), "digest");
        });
        EDGES.test(33, "THE ROW's numbers, without how many; none that is gone", x -> {
            x.row(0);
            x.due(mixed(1, 0, 1, 0, 1, 0, 1, 0, 1, 0, 1, 0, 1, 1, 1, 2, -1, 0, 0), "digest");
            x.row(10000, 5);
            x.due(mixed(1, 0, 1, 0, 1, 0, 1, 0, 1, 0, 1, 0, 1, 1, 1, 2, -1, 10000, 5, 0), "digest");
            x.ready("empty");
            x.due(new PulseSigns().digest(), "digest");
        });
        EDGES.test(33, "how often best() was done comes last", x -> {
            x.ready("best", 0, 1);
            x.ready("best", 0, 1);
            x.due(mixed(1, 0, 1, 0, 1, 0, 1, 0, 1, 0, 1, 0, 1, 1, 1, 2, -1, 2), "digest");
        });
    }

    private static void digestOfMost() {
        EDGES.test(33, "of the most that there can be, wrapping", x -> {
            long h = 181;
            for (int c = 0; c <= 5; c++) {
                x.ready("size", c, 16);
                x.ready("turn", c, 15, 3);
                h = 31 * h + 16;
                for (int i = 0; i < 16; i++) {
                    h = 31 * h + (i == 15 ? 3 : 0);
                }
            }
            x.ready("filter", 24);
            x.ready("weight", 23, -50);
            h = 31 * h + 24;
            for (int j = 0; j < 24; j++) {
                h = 31 * h + (j == 23 ? -50 : 0);
            }
            x.rests(60, 60, 60, 60);
            x.ready("fold", 59);
            h = 31 * h + 4;
            for (int i = 0; i < 4; i++) {
                h = 31 * (31 * h + 60) + 59;
            }
            for (int i = 0; i < 64; i++) {
                x.ready("put", 10000 - i);
                h = 31 * h + 10000 - i;
            }
            x.due(31 * h, "digest");
        });
    }
}
