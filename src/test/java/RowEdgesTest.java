import java.util.Arrays;

/** The boundary cases of promises 26 to 31. */
public final class RowEdgesTest {
    private static final Edges EDGES = new Edges(26, 31);
    private static final int MIN = Case.MIN;
    private static final int MAX = Case.MAX;
    private static final int IT = Case.IT;
    private static final int NONE = Case.NONE;
    private static final int UNKNOWN = Case.UNKNOWN;
    private static final int OUTSIDE = Case.OUTSIDE;
    private static final int FULL = Case.FULL;

    public static void main(String[] args) {
        put();
        empty();
        foundNames();
        seekingRefused("found", 28);
        foundAbove();
        foundNeighbours();
        foundFew();
        foundOrder();
        seekingRefused("count", 29);
        count();
        shareRefused();
        share();
        scaleRefused();
        scale();
        EDGES.end();
    }

    private static int[] many(int n, int v) {
        int[] row = new int[n];
        Arrays.fill(row, v);
        return row;
    }

    private static void put() {
        EDGES.test(26, "OUTSIDE: v is 0 at least", x -> {
            x.filled();
            x.due(7, "put", 0);
            x.eachRefused(OUTSIDE, new int[] {-1, -2, MIN}, "put", IT);
        });
        EDGES.test(26, "OUTSIDE: v is 10000 at most", x -> {
            x.filled();
            x.due(7, "put", 10000);
            x.eachRefused(OUTSIDE, new int[] {10001, 10002, MAX}, "put", IT);
        });
        EDGES.test(26, "FULL: up to 64 numbers", x -> {
            x.row(many(63, 5));
            x.due(64, "put", 6);
            x.eachRefused(FULL, new int[] {0, 7, 10000}, "put", IT);
            x.due(64, "told", 2);
        });
        EDGES.test(26, "OUTSIDE ahead of FULL", x -> {
            x.row(many(64, 5));
            x.refused(OUTSIDE, "put", -1);
            x.refused(OUTSIDE, "put", 10001);
            x.refused(FULL, "put", 10000);
        });
        EDGES.test(26, "how many: the first is 1", x -> {
            x.due(1, "put", 9);
            x.due(2, "put", 9);
        });
        EDGES.test(26, "a full ROW that was made empty takes 64 again", x -> {
            x.row(many(64, 5));
            x.refused(FULL, "put", 5);
            x.ready("empty");
            for (int i = 1; i <= 64; i++) {
                x.due(i, "put", i);
            }
            x.refused(FULL, "put", 5);
        });
    }

    private static void empty() {
        EDGES.test(27, "of none: 0, again and again", x -> {
            x.due(0, "empty");
            x.due(0, "empty");
        });
        EDGES.test(27, "of one", x -> {
            x.row(5);
            x.due(1, "empty");
            x.due(0, "told", 2);
            x.due(0, "empty");
        });
        EDGES.test(27, "of sixty-four", x -> {
            x.row(many(64, 5));
            x.due(64, "empty");
            x.due(0, "told", 2);
        });
        EDGES.test(27, "what was there is no NEIGHBOUR any more", x -> {
            x.row(1, 1, 1, 1);
            x.due(4, "empty");
            x.ready("put", 9);
            x.due(0, "found", 0, 8, 0, 1, 1);
            x.ready("put", 8);
            x.due(1, "found", 0, 8, 0, 1, 11);
            x.due(0, "found", 0, 8, 0, 1, 12);
            x.due(0, "found", 0, 8, 0, 2, 1);
        });
        EDGES.test(27, "all else stays", x -> {
            x.filled();
            x.due(6, "empty");
            x.due(4, "told", 0);
            x.due(3, "told", 1);
            x.due(1, "told", 3);
            x.due(4, "read", 0, 4);
        });
    }

    private static void foundNames() {
        EDGES.test(28, "UNKNOWN: x is 0 at least", x -> {
            x.row(9, 1, 9);
            x.due(1, "found", 0, 1, 0, 1, 10);
            x.eachRefused(UNKNOWN, new int[] {-1, -2, MIN}, "found", IT, 1, 0, 1, 10);
        });
        EDGES.test(28, "UNKNOWN: x is below the number in THE ROW", x -> {
            x.row(9, 1, 9);
            x.due(1, "found", 2, 1, 0, 1, 10);
            x.eachRefused(UNKNOWN, new int[] {3, 4, 63, 64, MAX}, "found", IT, 1, 0, 1, 10);
        });
        EDGES.test(28, "UNKNOWN: x in an empty ROW", x -> {
            x.refused(UNKNOWN, "found", 0, 1, 0, 1, 10);
            x.ready("put", 5);
            x.due(0, "found", 0, 1, 0, 1, 10);
        });
        EDGES.test(28, "UNKNOWN: x in a full ROW", x -> {
            x.row(many(63, 1));
            x.ready("put", 9);
            x.due(1, "found", 63, 1, 0, 1, 10);
            x.refused(UNKNOWN, "found", 64, 1, 0, 1, 10);
        });
        EDGES.test(28, "UNKNOWN ahead of OUTSIDE", x -> {
            x.row(9, 1, 9);
            x.refused(UNKNOWN, "found", 3, 0, 0, 1, 10);
            x.refused(UNKNOWN, "found", -1, 1, 4, 1, 10);
            x.refused(UNKNOWN, "found", 3, 1, 0, 9, 10);
            x.refused(UNKNOWN, "found", -1, 1, 0, 1, 501);
        });
    }

    /** found and count are refused alike; of twenty-one numbers the middle one alone stands out. */
    private static void seekingRefused(String name, int promise) {
        boolean found = name.equals("found");
        int[] w = with(found, IT, 0, 1, 10);
        seeking(promise, name, "w is 1 at least", new int[] {0, -1, MIN}, with(found, 1, 0, 1, 10), w);
        seeking(promise, name, "w is 8 at most", new int[] {9, 10, MAX}, with(found, 8, 0, 1, 10), w);
        int[] g = with(found, 8, IT, 1, 10);
        seeking(promise, name, "g is 0 at least", new int[] {-1, -2, MIN}, with(found, 8, 0, 1, 10), g);
        seeking(promise, name, "g is 3 at most", new int[] {4, 5, MAX}, with(found, 8, 3, 1, 10), g);
        int[] k = with(found, 8, 0, IT, 10);
        seeking(promise, name, "k is 1 at least", new int[] {0, -1, MIN}, with(found, 8, 0, 1, 10), k);
        seeking(promise, name, "k is 8 at most", new int[] {9, 16, MAX}, with(found, 8, 0, 8, 10), k);
        int[] s = with(found, 8, 0, 8, IT);
        seeking(promise, name, "s is 1 at least", new int[] {0, -1, MIN}, with(found, 8, 0, 8, 1), s);
        seeking(promise, name, "s is 500 at most", new int[] {501, 502, MAX}, with(found, 8, 0, 8, 500), s);
    }

    private static int[] with(boolean found, int w, int g, int k, int s) {
        return found ? new int[] {10, w, g, k, s} : new int[] {w, g, k, s};
    }

    private static void seeking(int promise, String name, String bound, int[] bad, int[] good, int[] tried) {
        EDGES.test(promise, "OUTSIDE: " + bound, x -> {
            // 1000 times 10 is above 500 times 10, 10 times 10 above 1 times 10 too
            int[] row = many(21, 10);
            row[10] = 1000;
            x.row(row);
            boolean all = good[good.length - 1] == 1 && name.equals("count");
            x.due(all ? 21 : 1, name, good);
            x.eachRefused(OUTSIDE, bad, name, tried);
        });
    }

    private static void foundAbove() {
        EDGES.test(28, "above, not as great", x -> {
            x.row(4, 8);
            x.due(1, "found", 1, 1, 0, 1, 19);
            x.due(0, "found", 1, 1, 0, 1, 20);
            x.due(0, "found", 1, 1, 0, 1, 21);
        });
        EDGES.test(28, "s 10 is once: like ones are not above", x -> {
            x.row(7, 7, 8);
            x.due(0, "found", 0, 1, 0, 1, 10);
            x.due(1, "found", 0, 1, 0, 1, 9);
            x.due(1, "found", 2, 1, 0, 1, 10);
        });
        EDGES.test(28, "0 is not above 0, 1 is", x -> {
            x.row(0, 0, 1);
            x.due(0, "found", 0, 1, 0, 1, 1);
            x.due(0, "found", 0, 1, 0, 1, 500);
            x.due(1, "found", 2, 1, 0, 1, 500);
        });
        EDGES.test(28, "0 is never above", x -> {
            x.row(0, 1);
            x.due(0, "found", 0, 1, 0, 1, 1);
        });
        EDGES.test(28, "the greatest s and numbers: 10000 by 200", x -> {
            x.row(10000, 200, 10000, 199, 10000);
            x.due(1, "found", 4, 1, 0, 1, 500);
            x.due(0, "found", 0, 1, 0, 1, 500);
            x.due(1, "found", 0, 1, 0, 1, 499);
            x.due(0, "found", 0, 1, 1, 1, 500);
        });
        EDGES.test(28, "the least s: 1 by 9 and by 10", x -> {
            x.row(1, 9, 1, 10);
            x.due(1, "found", 0, 1, 0, 1, 1);
            x.due(0, "found", 0, 1, 2, 1, 1);
        });
    }

    /** One low number among high ones: a place is FOUND just if that is its NEIGHBOUR. */
    private static void foundNeighbours() {
        for (int width = 1; width <= 8; width++) {
            for (int gap = 0; gap <= 3; gap++) {
                int w = width;
                int g = gap;
                EDGES.test(28, "NEIGHBOURS are g and 1 to g and w away, w " + w + ", g " + g, x -> {
                    int[] row = many(27, 9);
                    row[13] = 1;
                    x.row(row);
                    int found = 0;
                    for (int place = 0; place < 27; place++) {
                        int away = Math.abs(place - 13);
                        int want = away >= g + 1 && away <= g + w ? 1 : 0;
                        found += want;
                        x.due(want, "found", place, w, g, 1, 50);
                    }
                    x.due(found, "count", w, g, 1, 50);
                });
            }
        }
        EDGES.test(28, "places of THE ROW: none ahead of the first", x -> {
            x.row(9, 1, 9);
            x.due(1, "found", 0, 8, 0, 1, 50);
            x.due(0, "found", 0, 8, 0, 3, 1);
            x.due(1, "found", 0, 8, 0, 2, 9);
        });
        EDGES.test(28, "places of THE ROW: none behind the last", x -> {
            x.row(9, 1, 9);
            x.due(1, "found", 2, 8, 0, 1, 50);
            x.due(0, "found", 2, 8, 0, 3, 1);
            x.due(1, "found", 2, 8, 0, 2, 9);
        });
        EDGES.test(28, "places of THE ROW: it does not go round, full as it is", x -> {
            int[] row = many(64, 9);
            row[63] = 1;
            x.row(row);
            x.due(0, "found", 0, 8, 3, 1, 50);
            x.due(0, "found", 7, 8, 3, 1, 50);
            x.due(1, "found", 62, 1, 0, 1, 50);
            row[63] = 9;
            row[0] = 1;
            x.row(row);
            x.due(0, "found", 63, 8, 3, 1, 50);
            x.due(1, "found", 1, 1, 0, 1, 50);
        });
    }

    private static void foundFew() {
        for (int order = 1; order <= 8; order++) {
            int k = order;
            EDGES.test(28, "with fewer than k NEIGHBOURS none is FOUND, k " + k, x -> {
                x.row(many(k, 1));
                x.ready("put", 9);
                x.due(1, "found", k, 8, 0, k, 10);
                x.row(many(k - 1, 1));
                x.ready("put", 9);
                x.due(0, "found", k - 1, 8, 0, k, 1);
            });
        }
        EDGES.test(28, "w 1 has two NEIGHBOURS at most", x -> {
            x.row(1, 9, 1);
            x.due(1, "found", 1, 1, 0, 2, 10);
            x.due(0, "found", 1, 1, 0, 3, 1);
        });
        EDGES.test(28, "w 4 has eight NEIGHBOURS, one place beside the middle seven", x -> {
            x.row(many(9, 9));
            x.due(1, "found", 4, 4, 0, 8, 9);
            x.due(0, "found", 3, 4, 0, 8, 1);
            x.due(1, "found", 3, 4, 0, 7, 9);
        });
        EDGES.test(28, "the gap leaves none", x -> {
            x.row(9, 1, 1, 1);
            x.due(1, "found", 0, 8, 2, 1, 10);
            x.due(0, "found", 0, 8, 3, 1, 1);
        });
        EDGES.test(28, "a place alone", x -> {
            x.row(10000);
            x.due(0, "found", 0, 8, 0, 1, 1);
        });
    }

    private static void foundOrder() {
        EDGES.test(28, "the k-th least: each k, both sides", x -> {
            // NEIGHBOURS 20, 22, .., 34 in no order, and 100 among them: 10 times 100 against s times each
            x.row(26, 34, 20, 30, 100, 22, 32, 28, 24);
            for (int k = 1; k <= 8; k++) {
                int least = 18 + 2 * k;
                int above = 999 / least;
                x.due(1, "found", 4, 4, 0, k, above);
                x.due(0, "found", 4, 4, 0, k, above + 1);
            }
        });
        EDGES.test(28, "the k-th least of sixteen NEIGHBOURS", x -> {
            int[] row = {31, 30, 29, 28, 27, 26, 25, 24, 100, 23, 22, 21, 20, 19, 18, 17, 16};
            x.row(row);
            for (int k = 1; k <= 8; k++) {
                int above = 999 / (15 + k);
                x.due(1, "found", 8, 8, 0, k, above);
                x.due(0, "found", 8, 8, 0, k, above + 1);
            }
        });
        EDGES.test(28, "like NEIGHBOURS are several", x -> {
            x.row(1, 1, 5, 1, 7);
            x.due(1, "found", 2, 2, 0, 3, 49);
            x.due(0, "found", 2, 2, 0, 3, 50);
            x.due(1, "found", 2, 2, 0, 4, 7);
            x.due(0, "found", 2, 2, 0, 4, 8);
        });
        EDGES.test(28, "the place itself is no NEIGHBOUR", x -> {
            x.row(9, 1, 9);
            x.due(0, "found", 1, 1, 0, 1, 9);
            x.due(0, "found", 1, 1, 0, 2, 2);
            x.due(1, "found", 1, 1, 0, 2, 1);
        });
    }

    private static void count() {
        EDGES.test(29, "an empty ROW: 0", x -> x.due(0, "count", 8, 0, 1, 1));
        EDGES.test(29, "an empty ROW: OUTSIDE still", x -> {
            x.refused(OUTSIDE, "count", 0, 0, 1, 1);
            x.refused(OUTSIDE, "count", 1, 4, 1, 1);
            x.refused(OUTSIDE, "count", 1, 0, 9, 1);
            x.refused(OUTSIDE, "count", 1, 0, 1, 501);
        });
        EDGES.test(29, "one number: 0", x -> {
            x.row(10000);
            x.due(0, "count", 8, 0, 1, 1);
        });
        EDGES.test(29, "all of a full ROW", x -> {
            x.row(many(64, 5));
            x.due(64, "count", 8, 3, 8, 9);
            x.due(0, "count", 8, 3, 8, 10);
        });
        EDGES.test(29, "the first and the last place", x -> {
            x.row(9, 1, 1, 9);
            x.due(2, "count", 1, 0, 1, 10);
            x.row(9, 1, 1, 1);
            x.due(1, "count", 1, 0, 1, 10);
            x.row(1, 1, 1, 9);
            x.due(1, "count", 1, 0, 1, 10);
        });
        EDGES.test(29, "fewer than k NEIGHBOURS at the ends", x -> {
            x.row(many(10, 5));
            x.due(8, "count", 1, 0, 2, 9);
            x.due(10, "count", 1, 0, 1, 9);
            x.due(0, "count", 1, 0, 3, 9);
            x.due(2, "count", 4, 0, 8, 9);
        });
    }

    private static void shareRefused() {
        EDGES.test(30, "OUTSIDE: n is 1 at least", x -> {
            x.filled();
            x.due(1, "share", 1, 1, 1, 0);
            x.eachRefused(-102, new int[] {0, -1, MIN}, "share", IT, 1, 1, 0);
        });
        EDGES.test(30, "OUTSIDE: n is 8 at most", x -> {
            x.filled();
            x.due(8, "share", 8, 1, 1, 0);
            x.eachRefused(-102, new int[] {9, 10, MAX}, "share", IT, 1, 1, 0);
        });
        EDGES.test(30, "OUTSIDE: k is 1 at least", x -> {
            x.filled();
            x.due(3, "share", 3, 1, 1, 0);
            x.eachRefused(-102, new int[] {0, -1, MIN}, "share", 3, IT, 1, 0);
        });
        for (int most = 1; most <= 8; most++) {
            int n = most;
            EDGES.test(30, "OUTSIDE: k is N at most, N " + n, x -> {
                x.due(1, "share", n, n, 1, 0);
                x.due(n + 1, "share", n, n, 1, 1);
                x.eachRefused(-102, new int[] {n + 1, n + 2, MAX}, "share", n, IT, 1, 0);
            });
        }
        EDGES.test(30, "OUTSIDE: s is 1 at least", x -> {
            x.filled();
            x.due(4, "share", 3, 1, 1, 1);
            x.eachRefused(-102, new int[] {0, -1, MIN}, "share", 3, 1, IT, 1);
        });
        EDGES.test(30, "OUTSIDE: s is 40 at most", x -> {
            x.filled();
            x.due(43, "share", 3, 1, 40, 1);
            x.eachRefused(-102, new int[] {41, 42, 500, MAX}, "share", 3, 1, IT, 1);
        });
        EDGES.test(30, "OUTSIDE: part is 0 or 1", x -> {
            x.filled();
            x.due(3, "share", 3, 1, 2, 0);
            x.due(5, "share", 3, 1, 2, 1);
            x.eachRefused(-102, new int[] {-1, -2, 2, 3, MIN, MAX}, "share", 3, 1, 2, IT);
        });
        EDGES.test(30, "OUTSIDE: all at once", x -> x.refused(-102, "share", 9, 0, 41, 2));
    }

    private static void share() {
        EDGES.test(30, "lowest terms: nothing to divide by", x -> {
            x.due(7, "share", 7, 1, 4, 0);
            x.due(11, "share", 7, 1, 4, 1);
        });
        EDGES.test(30, "lowest terms: divided down to 1", x -> {
            x.due(1, "share", 8, 1, 40, 0);
            x.due(6, "share", 8, 1, 40, 1);
        });
        EDGES.test(30, "lowest terms: by several divisors", x -> {
            // 336 by 1320, both by 24
            x.due(14, "share", 8, 3, 4, 0);
            x.due(55, "share", 8, 3, 4, 1);
        });
        EDGES.test(30, "the last i is k less 1", x -> {
            // 3 by 4, times 2 by 3, times 1 by 2
            x.due(3, "share", 3, 1, 1, 0);
            x.due(4, "share", 3, 1, 1, 1);
            x.due(1, "share", 3, 2, 1, 0);
            x.due(2, "share", 3, 2, 1, 1);
            x.due(1, "share", 3, 3, 1, 0);
            x.due(4, "share", 3, 3, 1, 1);
        });
        EDGES.test(30, "the least and the greatest numbers", x -> {
            x.due(1, "share", 1, 1, 1, 0);
            x.due(2, "share", 1, 1, 1, 1);
            x.due(1, "share", 8, 8, 40, 0);
            x.due(377348994, "share", 8, 8, 40, 1);
        });
    }

    private static void scaleRefused() {
        EDGES.test(31, "OUTSIDE: n is 1 at least", x -> {
            x.filled();
            x.due(1, "scale", 1, 1, 2);
            x.eachRefused(OUTSIDE, new int[] {0, -1, MIN}, "scale", IT, 1, 2);
        });
        EDGES.test(31, "OUTSIDE: n is 8 at most", x -> {
            x.filled();
            x.due(8, "scale", 8, 1, 2);
            x.eachRefused(OUTSIDE, new int[] {9, 10, MAX}, "scale", IT, 1, 2);
        });
        EDGES.test(31, "OUTSIDE: k is 1 at least", x -> {
            x.filled();
            x.due(3, "scale", 3, 1, 2);
            x.eachRefused(OUTSIDE, new int[] {0, -1, MIN}, "scale", 3, IT, 2);
        });
        for (int most = 1; most <= 8; most++) {
            int n = most;
            EDGES.test(31, "OUTSIDE: k is N at most, N " + n, x -> {
                x.due(1, "scale", n, n, n + 1);
                x.eachRefused(OUTSIDE, new int[] {n + 1, n + 2, MAX}, "scale", n, IT, 2);
            });
        }
        EDGES.test(31, "OUTSIDE: u is 1 at least", x -> {
            x.filled();
            x.due(1, "scale", 3, 1, 1);
            x.eachRefused(OUTSIDE, new int[] {0, -1, MIN}, "scale", 3, 1, IT);
        });
        EDGES.test(31, "OUTSIDE: u is 1000000000 at most", x -> {
            x.filled();
            x.due(NONE, "scale", 8, 8, 1000000000);
            x.eachRefused(OUTSIDE, new int[] {1000000001, 1000000002, MAX}, "scale", 8, 8, IT);
        });
        EDGES.test(31, "OUTSIDE ahead of NONE", x -> {
            x.refused(OUTSIDE, "scale", 9, 1, 1000000000);
            x.refused(OUTSIDE, "scale", 1, 2, 1000000000);
        });
    }

    private static void scale() {
        EDGES.test(31, "u 1: every share is at most 1, so s is 1", x -> {
            for (int n = 1; n <= 8; n++) {
                x.due(1, "scale", n, 1, 1);
                x.due(1, "scale", n, n, 1);
            }
        });
        EDGES.test(31, "at most: as great is enough, each s of one", x -> {
            // the share is 1 by s and 1
            for (int s = 1; s <= 40; s++) {
                x.due(s, "scale", 1, 1, s + 1);
            }
        });
        EDGES.test(31, "the last s is 40, then NONE", x -> {
            x.due(40, "scale", 1, 1, 41);
            x.due(NONE, "scale", 1, 1, 42);
        });
        EDGES.test(31, "the greatest u that an s is found for", x -> {
            x.due(40, "scale", 8, 8, 377348994);
            x.due(NONE, "scale", 8, 8, 377348995);
        });
        EDGES.test(31, "at most, where it does not come out even", x -> {
            // N 2, k 2: 2 by 6, 2 by 12, 2 by 20
            x.due(1, "scale", 2, 2, 3);
            x.due(2, "scale", 2, 2, 4);
            x.due(2, "scale", 2, 2, 6);
            x.due(3, "scale", 2, 2, 7);
        });
        EDGES.test(31, "s agrees with share() on both sides", x -> {
            PulseSigns shares = new PulseSigns();
            int u = 1000;
            for (int n = 1; n <= 8; n++) {
                int want = NONE;
                for (int s = 40; s >= 1; s--) {
                    if (shares.share(n, n, s, 0) * u <= shares.share(n, n, s, 1)) {
                        want = s;
                    }
                }
                x.due(want, "scale", n, n, u);
            }
        });
    }
}
