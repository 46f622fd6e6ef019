import java.math.BigInteger;
import java.util.ArrayList;
import java.util.Arrays;
import java.util.Collections;
import java.util.HashMap;
import java.util.List;
import java.util.Map;

/** The document once more, written as plainly as can be and without care for time or room: what ModelTest compares with. */
final class Model {
    private static final Map<Integer, int[]> BEST = new HashMap<>();

    private final int[][] signs = {{0}, {0}, {0}, {0}, {0}, {0}};
    private int[] filter = {1};
    private int[] rests = {2};
    private int[] reads = {-1};
    private final List<Integer> row = new ArrayList<>();
    private int done = 0;

    private static boolean in(int v, int low, int high) {
        return low <= v && v <= high;
    }

    private static boolean sign(int c) {
        return in(c, 0, 5);
    }

    private static int[] times(int[] a, int[] b) {
        return new int[] {a[0] * b[0] - a[1] * b[1], a[0] * b[1] + a[1] * b[0]};
    }

    private static int[] plus(int[] a, int[] b) {
        return new int[] {a[0] + b[0], a[1] + b[1]};
    }

    private static int[] power(int q) {
        int[] number = {1, 0};
        for (int i = 0; i < q; i++) {
            number = times(number, new int[] {0, 1});
        }
        return number;
    }

    private static int[] at(int[] sign, int n) {
        return in(n, 0, sign.length - 1) ? power(sign[n]) : new int[] {0, 0};
    }

    private static int[] other(int[] number) {
        return new int[] {number[0], -number[1]};
    }

    private static int square(int[] number) {
        return number[0] * number[0] + number[1] * number[1];
    }

    private static int[] looks(int[] a, int[] b, int k, int d) {
        int[] sum = {0, 0};
        for (int n = 0; n < 16; n++) {
            sum = plus(sum, times(times(at(a, n), other(at(b, n + k))), power(d * n)));
        }
        return sum;
    }

    private static List<Integer> sides(int[] a) {
        List<Integer> all = new ArrayList<>();
        for (int k = 1; k <= a.length - 1; k++) {
            all.add(square(looks(a, a, k, 0)));
        }
        return all;
    }

    private static int peakOf(int[] a) {
        return sides(a).isEmpty() ? 0 : Collections.max(sides(a));
    }

    private static int flankOf(int[] a) {
        return sides(a).stream().mapToInt(Integer::intValue).sum();
    }

    private static boolean better(int[] a, int[] b) {
        if (peakOf(a) != peakOf(b)) {
            return peakOf(a) < peakOf(b);
        }
        if (flankOf(a) != flankOf(b)) {
            return flankOf(a) < flankOf(b);
        }
        return Arrays.compare(a, b) < 0;
    }

    private static int[] searched(int n) {
        int[] best = null;
        for (int number = 0; number < 1 << n; number++) {
            int[] sign = new int[n];
            for (int i = 0; i < n; i++) {
                sign[i] = (number >> i) % 2 * 2;
            }
            if (best == null || better(sign, best)) {
                best = sign;
            }
        }
        return best;
    }

    int size(int c, int n) {
        if (!sign(c)) return -101;
        if (!in(n, 1, 16)) return -102;
        signs[c] = new int[n];
        return n;
    }

    int turn(int c, int i, int q) {
        if (!sign(c) || !in(i, 0, signs[c].length - 1)) return -101;
        if (!in(q, 0, 3)) return -102;
        int was = signs[c][i];
        signs[c][i] = q;
        return was;
    }

    int turned(int c, int i) {
        if (!sign(c)) return -101;
        return in(i, 0, signs[c].length - 1) ? signs[c][i] : -1;
    }

    int made(int c, int a, int side) {
        if (!sign(a) || !sign(c)) return -101;
        if (!in(side, 0, 2)) return -102;
        int[] from = signs[a];
        int[] to = new int[from.length];
        for (int i = 0; i < from.length; i++) {
            to[i] = side == 0 ? from[from.length - 1 - i] : side == 1 ? (4 - from[i]) % 4 : (from[i] + 1) % 4;
        }
        signs[c] = to;
        return to.length;
    }

    int look(int a, int b, int k, int d, int part) {
        if (!sign(a) || !sign(b)) return -1000;
        if (!in(k, -15, 15) || !in(d, 0, 3) || !in(part, 0, 1)) return -1001;
        return looks(signs[a], signs[b], k, d)[part];
    }

    int peak(int c) {
        return sign(c) ? peakOf(signs[c]) : -101;
    }

    int flank(int c) {
        return sign(c) ? flankOf(signs[c]) : -101;
    }

    int worst(int c) {
        if (!sign(c)) return -101;
        int most = 0;
        for (int k = -15; k <= 15; k++) {
            for (int d = 0; d <= 3; d++) {
                if (!(k == 0 && d == 0)) most = Math.max(most, square(looks(signs[c], signs[c], k, d)));
            }
        }
        return most;
    }

    int best(int c, int n) {
        if (!sign(c)) return -101;
        if (!in(n, 1, 12)) return -102;
        if (done == 30) return -104;
        done++;
        signs[c] = BEST.computeIfAbsent(n, Model::searched).clone();
        return peakOf(signs[c]);
    }

    int pair(int a, int b) {
        if (!sign(a) || !sign(b)) return -101;
        if (signs[a].length != signs[b].length) return 0;
        for (int k = 1; k <= 15; k++) {
            if (square(plus(looks(signs[a], signs[a], k, 0), looks(signs[b], signs[b], k, 0))) != 0) return 0;
        }
        return 1;
    }

    int filter(int n) {
        if (!in(n, 1, 24)) return -102;
        filter = new int[n];
        return n;
    }

    int weight(int j, int v) {
        if (!in(j, 0, filter.length - 1)) return -1000;
        if (!in(v, -50, 50)) return -1001;
        int was = filter[j];
        filter[j] = v;
        return was;
    }

    int own(int c) {
        if (!sign(c)) return -101;
        filter = new int[signs[c].length];
        for (int j = 0; j < filter.length; j++) {
            filter[j] = other(at(signs[c], filter.length - 1 - j))[0];
        }
        return filter.length;
    }

    private int[] answers(int c, int k) {
        int[] sum = {0, 0};
        for (int j = 0; j < filter.length; j++) {
            sum = plus(sum, times(new int[] {filter[j], 0}, at(signs[c], k - j)));
        }
        return sum;
    }

    int answer(int c, int k, int part) {
        if (!sign(c)) return -100000;
        if (k < 0 || !in(part, 0, 1)) return -100001;
        return answers(c, k)[part];
    }

    int greatest(int c) {
        if (!sign(c)) return -101;
        int place = 0;
        for (int k = 0; k < 60; k++) {
            if (square(answers(c, k)) > square(answers(c, place))) place = k;
        }
        return place;
    }

    int clear(int c) {
        if (!sign(c)) return -101;
        int place = greatest(c);
        long here = square(answers(c, place));
        if (here == 0) return 0;
        long next = 0;
        for (int k = 0; k < 60; k++) {
            if (k != place) next = Math.max(next, square(answers(c, k)));
        }
        return next == 0 ? 1000000 : (int) (here * 10 / next);
    }

    int rests(int n) {
        if (!in(n, 1, 4)) return -102;
        rests = new int[n];
        reads = new int[n];
        Arrays.fill(rests, 2);
        Arrays.fill(reads, -1);
        return n;
    }

    int rest(int i, int p) {
        if (!in(i, 0, rests.length - 1)) return -101;
        if (!in(p, 2, 60)) return -102;
        int was = rests[i];
        rests[i] = p;
        reads[i] = -1;
        return was;
    }

    int read(int i, int v) {
        if (!in(i, 0, rests.length - 1)) return -101;
        if (!in(v, -1, rests[i] - 1)) return -102;
        int was = reads[i];
        reads[i] = v;
        return was;
    }

    int fold(int r) {
        if (!in(r, 0, 1000000)) return -102;
        for (int i = 0; i < rests.length; i++) {
            reads[i] = r % rests[i];
        }
        return rests.length;
    }

    private List<Integer> allUnfolded(int e, int m, int span) {
        List<Integer> all = new ArrayList<>();
        for (int r = 0; r < span; r++) {
            int near = 0;
            for (int i = 0; i < rests.length; i++) {
                boolean so = false;
                for (int away = -e; away <= e; away++) {
                    if (reads[i] != -1 && Math.floorMod(r + away, rests[i]) == reads[i]) so = true;
                }
                if (so) near++;
            }
            if (near >= m) all.add(r);
        }
        return all;
    }

    int unfold(int e, int m, int span) {
        if (!in(e, 0, 5) || !in(m, 1, 4) || !in(span, 1, 5000)) return -102;
        return allUnfolded(e, m, span).size();
    }

    int unfolded(int e, int m, int span, int j) {
        if (!in(e, 0, 5) || !in(m, 1, 4) || !in(span, 1, 5000)) return -102;
        List<Integer> all = allUnfolded(e, m, span);
        return in(j, 0, all.size() - 1) ? all.get(j) : -1;
    }

    int common() {
        BigInteger all = BigInteger.ONE;
        for (int p : rests) {
            BigInteger rest = BigInteger.valueOf(p);
            all = all.multiply(rest).divide(all.gcd(rest));
        }
        return all.intValueExact();
    }

    int blind(int i, int round) {
        if (!in(i, -1, rests.length - 1)) return -101;
        if (!in(round, 1, 3600)) return -102;
        int many = 0;
        for (int v = 0; v < round; v++) {
            boolean so = true;
            for (int j = 0; j < rests.length; j++) {
                if ((i == -1 || i == j) && v * rests[j] % round != 0) so = false;
            }
            if (so) many++;
        }
        return many;
    }

    int put(int v) {
        if (!in(v, 0, 10000)) return -102;
        if (row.size() == 64) return -104;
        row.add(v);
        return row.size();
    }

    int empty() {
        int was = row.size();
        row.clear();
        return was;
    }

    private boolean finds(int x, int w, int g, int k, int s) {
        List<Integer> near = new ArrayList<>();
        for (int y = 0; y < row.size(); y++) {
            if (in(y, x - g - w, x - g - 1) || in(y, x + g + 1, x + g + w)) near.add(row.get(y));
        }
        Collections.sort(near);
        return near.size() >= k && 10 * row.get(x) > s * near.get(k - 1);
    }

    int found(int x, int w, int g, int k, int s) {
        if (!in(x, 0, row.size() - 1)) return -101;
        if (!in(w, 1, 8) || !in(g, 0, 3) || !in(k, 1, 8) || !in(s, 1, 500)) return -102;
        return finds(x, w, g, k, s) ? 1 : 0;
    }

    int count(int w, int g, int k, int s) {
        if (!in(w, 1, 8) || !in(g, 0, 3) || !in(k, 1, 8) || !in(s, 1, 500)) return -102;
        int many = 0;
        for (int x = 0; x < row.size(); x++) {
            if (finds(x, w, g, k, s)) many++;
        }
        return many;
    }

    private static BigInteger[] shares(int n, int k, int s) {
        BigInteger above = BigInteger.ONE;
        BigInteger below = BigInteger.ONE;
        for (int i = 0; i <= k - 1; i++) {
            above = above.multiply(BigInteger.valueOf(n - i));
            below = below.multiply(BigInteger.valueOf(n - i + s));
        }
        BigInteger both = above.gcd(below);
        return new BigInteger[] {above.divide(both), below.divide(both)};
    }

    long share(int n, int k, int s, int part) {
        if (!in(n, 1, 8) || !in(k, 1, n) || !in(s, 1, 40) || !in(part, 0, 1)) return -102;
        return shares(n, k, s)[part].longValueExact();
    }

    int scale(int n, int k, int u) {
        if (!in(n, 1, 8) || !in(k, 1, n) || !in(u, 1, 1000000000)) return -102;
        for (int s = 1; s <= 40; s++) {
            BigInteger[] share = shares(n, k, s);
            if (share[0].multiply(BigInteger.valueOf(u)).compareTo(share[1]) <= 0) return s;
        }
        return -1;
    }

    int told(int what) {
        if (!in(what, 0, 3)) return -102;
        return new int[] {filter.length, rests.length, row.size(), done}[what];
    }

    long digest() {
        List<Integer> all = new ArrayList<>();
        for (int[] sign : signs) {
            all.add(sign.length);
            for (int q : sign) all.add(q);
        }
        all.add(filter.length);
        for (int f : filter) all.add(f);
        all.add(rests.length);
        for (int i = 0; i < rests.length; i++) {
            all.add(rests[i]);
            all.add(reads[i]);
        }
        all.addAll(row);
        all.add(done);
        long h = 181;
        for (int number : all) {
            h = 31 * h + number;
        }
        return h;
    }
}
