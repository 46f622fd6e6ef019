/** Promises 26 to 31. */
public final class RowTest {
    private static final Check CHECK = new Check();
    private static final int MIN = Integer.MIN_VALUE;
    private static final int MAX = Integer.MAX_VALUE;

    public static void main(String[] args) {
        put();
        empty();
        found();
        foundAtEdges();
        foundOutside();
        count();
        share();
        scale();
        CHECK.end();
    }

    private static void due(String call, long got, long want) {
        CHECK.due(call, got, want);
    }

    private static PulseSigns with(int... numbers) {
        PulseSigns x = new PulseSigns();
        for (int number : numbers) {
            x.put(number);
        }
        return x;
    }

    private static void put() {
        PulseSigns x = new PulseSigns();
        long before = x.digest();
        for (int v : new int[] {-1, 10001, MIN, MAX}) {
            CHECK.refused("put(" + v + ")", x, before, x.put(v), PulseSigns.OUTSIDE);
        }
        for (int i = 1; i <= 64; i++) {
            due("put, number " + i, x.put(i % 2 == 0 ? 0 : 10000), i);
        }
        before = x.digest();
        CHECK.refused("put(5), number 65", x, before, x.put(5), PulseSigns.FULL);
        CHECK.refused("put(-1) when full", x, before, x.put(-1), PulseSigns.OUTSIDE);
        due("told(2)", x.told(2), 64);
    }

    private static void empty() {
        PulseSigns x = with(1, 2, 3);
        due("empty()", x.empty(), 3);
        due("empty() again", x.empty(), 0);
        due("told(2)", x.told(2), 0);
        due("nothing left behind", x.digest(), new PulseSigns().digest());
        due("put(9)", x.put(9), 1);
        due("an old number is no neighbour", x.found(0, 1, 0, 1, 1), 0);
    }

    private static void found() {
        PulseSigns x = with(5, 3, 9, 4, 2, 8);
        // of place 2: 3, 4 and 5, 2
        due("90 above 29 times 3", x.found(2, 1, 0, 1, 29), 1);
        due("90 not above 30 times 3", x.found(2, 1, 0, 1, 30), 0);
        due("90 above 22 times 4", x.found(2, 1, 0, 2, 22), 1);
        due("90 not above 23 times 4", x.found(2, 1, 0, 2, 23), 0);
        due("the least of four is 2", x.found(2, 2, 0, 1, 44), 1);
        due("the least of four is 2", x.found(2, 2, 0, 1, 45), 0);
        due("the greatest of four is 5", x.found(2, 2, 0, 4, 17), 1);
        due("the greatest of four is 5", x.found(2, 2, 0, 4, 18), 0);
        due("a gap of one: 5, 2", x.found(2, 1, 1, 2, 17), 1);
        due("a gap of one: 5, 2", x.found(2, 1, 1, 2, 18), 0);
        due("a gap of two: 8 alone", x.found(2, 1, 2, 1, 11), 1);
        due("a gap of two: 8 alone", x.found(2, 1, 2, 1, 12), 0);
        due("a gap of two: 8 alone", x.found(2, 1, 2, 2, 1), 0);
        PulseSigns like = with(4, 4, 5, 4, 4);
        due("like neighbours are several", like.found(2, 2, 0, 4, 12), 1);
        due("like neighbours are several", like.found(2, 2, 0, 4, 13), 0);
        PulseSigns nothing = with(0, 0, 1);
        due("0 is not above 0", nothing.found(0, 1, 0, 1, 500), 0);
        due("1 is above 0", nothing.found(2, 1, 0, 1, 500), 1);
        PulseSigns great = with(10000, 10000, 10000);
        due("great numbers", great.found(1, 1, 0, 2, 9), 1);
        due("great numbers", great.found(1, 1, 0, 2, 500), 0);
    }

    private static void foundAtEdges() {
        PulseSigns x = with(9, 1, 1, 1);
        due("the first with three", x.found(0, 8, 0, 3, 10), 1);
        due("the first with no fourth", x.found(0, 8, 0, 4, 1), 0);
        due("the first, gap 2", x.found(0, 1, 2, 1, 10), 1);
        due("the first, gap 3", x.found(0, 1, 3, 1, 1), 0);
        due("the last with three", with(1, 1, 1, 9).found(3, 8, 0, 3, 10), 1);
        due("alone", with(9).found(0, 8, 0, 1, 1), 0);
        PulseSigns full = new PulseSigns();
        for (int i = 0; i < 64; i++) {
            full.put(i == 63 || i == 31 ? 100 : 1);
        }
        due("the very last", full.found(63, 8, 3, 8, 500), 1);
        due("the middle", full.found(31, 8, 3, 8, 500), 1);
        due("another", full.found(30, 8, 0, 8, 10), 0);
    }

    private static void foundOutside() {
        PulseSigns x = with(1, 2, 3);
        for (int bad : new int[] {-1, 3, 64, MIN, MAX}) {
            due("found(" + bad + ", ..)", x.found(bad, 1, 0, 1, 1), PulseSigns.UNKNOWN);
            due("found(" + bad + ", 0, ..)", x.found(bad, 0, 9, 0, 0), PulseSigns.UNKNOWN);
        }
        due("found(0, ..) of none", new PulseSigns().found(0, 1, 0, 1, 1), PulseSigns.UNKNOWN);
        for (int w : new int[] {0, 9, MIN, MAX}) {
            outside(x, w, 0, 1, 1);
        }
        for (int g : new int[] {-1, 4, MIN, MAX}) {
            outside(x, 1, g, 1, 1);
        }
        for (int k : new int[] {0, 9, MIN, MAX}) {
            outside(x, 1, 0, k, 1);
        }
        for (int s : new int[] {0, 501, MIN, MAX}) {
            outside(x, 1, 0, 1, s);
        }
    }

    private static void outside(PulseSigns x, int w, int g, int k, int s) {
        String how = w + ", " + g + ", " + k + ", " + s + ")";
        due("found(0, " + how, x.found(0, w, g, k, s), PulseSigns.OUTSIDE);
        due("count(" + how, x.count(w, g, k, s), PulseSigns.OUTSIDE);
        due("count(" + how + " of none", new PulseSigns().count(w, g, k, s), PulseSigns.OUTSIDE);
    }

    private static void count() {
        PulseSigns x = with(5, 3, 9, 4, 2, 8);
        due("above the least beside", x.count(1, 0, 1, 10), 4);
        due("above both beside", x.count(1, 0, 2, 10), 1);
        due("above eight of five", x.count(8, 3, 8, 1), 0);
        due("the widest", x.count(8, 0, 5, 10), 1);
        due("none in an empty row", new PulseSigns().count(8, 3, 8, 500), 0);
    }

    private static void share() {
        PulseSigns x = new PulseSigns();
        int[][] want = {{1, 1, 1, 1, 2}, {1, 1, 40, 1, 41}, {2, 1, 2, 1, 2}, {2, 2, 1, 1, 3}, {3, 2, 3, 1, 5},
            {8, 1, 40, 1, 6}, {4, 3, 5, 1, 21}, {8, 8, 1, 1, 9}, {7, 2, 4, 21, 55}, {8, 8, 40, 1, 377348994}};
        for (int[] row : want) {
            String how = "share(" + row[0] + ", " + row[1] + ", " + row[2] + ", ";
            due(how + "0)", x.share(row[0], row[1], row[2], 0), row[3]);
            due(how + "1)", x.share(row[0], row[1], row[2], 1), row[4]);
        }
        int[][] bad = {{0, 1, 1, 0}, {9, 1, 1, 0}, {3, 0, 1, 0}, {3, 4, 1, 0}, {3, 1, 0, 0}, {3, 1, 41, 0},
            {3, 1, 1, -1}, {3, 1, 1, 2}, {MAX, MAX, 1, 0}, {MIN, MIN, 1, 0}, {3, 1, MIN, 1}, {3, 1, MAX, 1},
            {3, MIN, 1, 1}, {3, 1, 1, MAX}, {3, 1, 1, MIN}};
        for (int[] row : bad) {
            due("share of a wrong number", x.share(row[0], row[1], row[2], row[3]), -102L);
        }
    }

    private static void scale() {
        PulseSigns x = new PulseSigns();
        due("scale(1, 1, 1)", x.scale(1, 1, 1), 1);
        due("scale(1, 1, 2)", x.scale(1, 1, 2), 1);
        due("scale(1, 1, 3)", x.scale(1, 1, 3), 2);
        due("scale(1, 1, 41)", x.scale(1, 1, 41), 40);
        due("scale(1, 1, 42)", x.scale(1, 1, 42), PulseSigns.NONE);
        due("scale(8, 6, 663)", x.scale(8, 6, 663), 10);
        due("scale(8, 6, 664)", x.scale(8, 6, 664), 11);
        due("scale(8, 8, 377348994)", x.scale(8, 8, 377348994), 40);
        due("scale(8, 8, 377348995)", x.scale(8, 8, 377348995), PulseSigns.NONE);
        due("scale(8, 8, 1000000000)", x.scale(8, 8, 1000000000), PulseSigns.NONE);
        due("scale(8, 8, 9)", x.scale(8, 8, 9), 1);
        int[][] bad = {{0, 1, 1}, {9, 1, 1}, {3, 0, 1}, {3, 4, 1}, {3, 1, 0}, {3, 1, 1000000001}, {3, 1, -1},
            {MIN, MIN, 1}, {MAX, MAX, 1}, {3, 1, MIN}, {3, 1, MAX}, {3, MIN, 1}};
        for (int[] row : bad) {
            due("scale of a wrong number", x.scale(row[0], row[1], row[2]), PulseSigns.OUTSIDE);
        }
    }
}
