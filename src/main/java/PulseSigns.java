/**
 * Pulses that part: signs of quarter turns, a filter, ways folded by rests, and a row in which things are found.
 * The words are those of the document (DOC.md); a call that is refused changes nothing.
 */
public final class PulseSigns {
    public static final int NONE = -1, UNKNOWN = -101, OUTSIDE = -102, STATE = -103, FULL = -104;

    private static final int SIGN_COUNT = 6;
    private static final int LONGEST_SEARCHED = 12;
    private static final int MOST_SEARCHES = 30;
    private static final int GREATEST_FOLDED = 1000000;
    private static final int GREATEST_ROUND = 3600;
    private static final int GREATEST_UNDER = 1000000000;

    // look, weight and answer may well answer -101 and -102, so the document gives them refusals of their own
    private static final int NUMBER_UNKNOWN = -1000;
    private static final int NUMBER_OUTSIDE = -1001;
    private static final int ANSWER_UNKNOWN = -100000;
    private static final int ANSWER_OUTSIDE = -100001;

    private final Sign[] signs = new Sign[SIGN_COUNT];
    private final Filter sieve = new Filter();
    private final Rests ways = new Rests();
    private final Row line = new Row();
    private int searches = 0;

    public PulseSigns() {
        for (int c = 0; c < SIGN_COUNT; c++) {
            signs[c] = new Sign();
        }
    }

    // ---- signs

    public int size(int c, int n) {
        if (!isSign(c)) {
            return UNKNOWN;
        }
        if (!within(n, 1, Sign.LONGEST)) {
            return OUTSIDE;
        }
        signs[c].reset(n);
        return n;
    }

    public int turn(int c, int i, int q) {
        if (!isSign(c) || !signs[c].has(i)) {
            return UNKNOWN;
        }
        if (!within(q, 0, 3)) {
            return OUTSIDE;
        }
        int before = signs[c].turns[i];
        signs[c].turns[i] = q;
        return before;
    }

    public int turned(int c, int i) {
        if (!isSign(c)) {
            return UNKNOWN;
        }
        return signs[c].has(i) ? signs[c].turns[i] : NONE;
    }

    public int made(int c, int a, int side) {
        if (!isSign(a) || !isSign(c)) {
            return UNKNOWN;
        }
        if (!within(side, 0, 2)) {
            return OUTSIDE;
        }
        Sign sign = signs[c];
        sign.copy(signs[a]);
        if (side == 0) {
            sign.reverse();
        } else if (side == 1) {
            sign.mirror();
        } else {
            sign.advance();
        }
        return sign.length;
    }

    public int look(int a, int b, int k, int d, int part) {
        if (!isSign(a) || !isSign(b)) {
            return NUMBER_UNKNOWN;
        }
        if (!within(k, -Sign.LATEST, Sign.LATEST) || !within(d, 0, 3) || !isPart(part)) {
            return NUMBER_OUTSIDE;
        }
        return signs[a].lookPart(signs[b], k, d, part);
    }

    public int peak(int c) {
        return isSign(c) ? signs[c].greatestSide() : UNKNOWN;
    }

    public int flank(int c) {
        return isSign(c) ? signs[c].sumOfSides() : UNKNOWN;
    }

    public int worst(int c) {
        return isSign(c) ? signs[c].greatestOwnLook() : UNKNOWN;
    }

    public int best(int c, int n) {
        if (!isSign(c)) {
            return UNKNOWN;
        }
        if (!within(n, 1, LONGEST_SEARCHED)) {
            return OUTSIDE;
        }
        if (searches >= MOST_SEARCHES) {
            return FULL;
        }
        searches++;
        signs[c].takeBits(Search.leastSided(n), n);
        return signs[c].greatestSide();
    }

    public int pair(int a, int b) {
        if (!isSign(a) || !isSign(b)) {
            return UNKNOWN;
        }
        return signs[a].sidesGoOutWith(signs[b]) ? 1 : 0;
    }

    // ---- the filter

    public int filter(int n) {
        if (!within(n, 1, Filter.LONGEST)) {
            return OUTSIDE;
        }
        sieve.reset(n);
        return n;
    }

    public int weight(int j, int v) {
        if (!within(j, 0, sieve.length - 1)) {
            return NUMBER_UNKNOWN;
        }
        if (!within(v, -Filter.GREATEST, Filter.GREATEST)) {
            return NUMBER_OUTSIDE;
        }
        int before = sieve.numbers[j];
        sieve.numbers[j] = v;
        return before;
    }

    public int own(int c) {
        if (!isSign(c)) {
            return UNKNOWN;
        }
        sieve.matchTo(signs[c]);
        return sieve.length;
    }

    public int answer(int c, int k, int part) {
        if (!isSign(c)) {
            return ANSWER_UNKNOWN;
        }
        if (k < 0 || !isPart(part)) {
            return ANSWER_OUTSIDE;
        }
        return sieve.answerPart(signs[c], k, part);
    }

    public int greatest(int c) {
        return isSign(c) ? sieve.greatestPlace(signs[c]) : UNKNOWN;
    }

    public int clear(int c) {
        return isSign(c) ? sieve.clearness(signs[c]) : UNKNOWN;
    }

    // ---- rests

    public int rests(int n) {
        if (!within(n, 1, Rests.MOST)) {
            return OUTSIDE;
        }
        ways.reset(n);
        return n;
    }

    public int rest(int i, int p) {
        if (!ways.has(i)) {
            return UNKNOWN;
        }
        if (!within(p, Rests.SHORTEST, Rests.LONGEST)) {
            return OUTSIDE;
        }
        int before = ways.periods[i];
        ways.periods[i] = p;
        ways.readings[i] = NONE;
        return before;
    }

    public int read(int i, int v) {
        if (!ways.has(i)) {
            return UNKNOWN;
        }
        if (v != NONE && !within(v, 0, ways.periods[i] - 1)) {
            return OUTSIDE;
        }
        int before = ways.readings[i];
        ways.readings[i] = v;
        return before;
    }

    public int fold(int r) {
        if (!within(r, 0, GREATEST_FOLDED)) {
            return OUTSIDE;
        }
        ways.readAll(r);
        return ways.length;
    }

    public int unfold(int e, int m, int span) {
        return Rests.mayUnfold(e, m, span) ? ways.fitting(e, m, span) : OUTSIDE;
    }

    public int unfolded(int e, int m, int span, int j) {
        return Rests.mayUnfold(e, m, span) ? ways.fittingAt(e, m, span, j) : OUTSIDE;
    }

    public int common() {
        return ways.leastCommon();
    }

    public int blind(int i, int round) {
        if (i != NONE && !ways.has(i)) {
            return UNKNOWN;
        }
        if (!within(round, 1, GREATEST_ROUND)) {
            return OUTSIDE;
        }
        return i == NONE ? ways.unseen(0, ways.length - 1, round) : ways.unseen(i, i, round);
    }

    // ---- the row

    public int put(int v) {
        if (!within(v, 0, Row.GREATEST)) {
            return OUTSIDE;
        }
        return line.append(v) ? line.length : FULL;
    }

    public int empty() {
        int before = line.length;
        line.length = 0;
        return before;
    }

    public int found(int x, int w, int g, int k, int s) {
        if (!within(x, 0, line.length - 1)) {
            return UNKNOWN;
        }
        if (!Row.maySeek(w, g, k, s)) {
            return OUTSIDE;
        }
        return line.standsOut(x, w, g, k, s) ? 1 : 0;
    }

    public int count(int w, int g, int k, int s) {
        return Row.maySeek(w, g, k, s) ? line.standingOut(w, g, k, s) : OUTSIDE;
    }

    public long share(int n, int k, int s, int part) {
        if (!Chance.mayOrder(n, k) || !within(s, 1, Chance.GREATEST_SCALE) || !isPart(part)) {
            return OUTSIDE;
        }
        long above = Chance.product(n, k, 0);
        long below = Chance.product(n, k, s);
        long divisor = commonDivisor(above, below);
        return (part == 0 ? above : below) / divisor;
    }

    public int scale(int n, int k, int u) {
        if (!Chance.mayOrder(n, k) || !within(u, 1, GREATEST_UNDER)) {
            return OUTSIDE;
        }
        return Chance.leastScale(n, k, u);
    }

    // ---- what is told

    public int told(int what) {
        switch (what) {
            case 0:
                return sieve.length;
            case 1:
                return ways.length;
            case 2:
                return line.length;
            case 3:
                return searches;
            default:
                return OUTSIDE;
        }
    }

    public long digest() {
        long h = 181;
        for (int c = 0; c < SIGN_COUNT; c++) {
            h = mixAll(mix(h, signs[c].length), signs[c].turns, signs[c].length);
        }
        h = mixAll(mix(h, sieve.length), sieve.numbers, sieve.length);
        h = mix(h, ways.length);
        for (int i = 0; i < ways.length; i++) {
            h = mix(mix(h, ways.periods[i]), ways.readings[i]);
        }
        h = mixAll(h, line.numbers, line.length);
        return mix(h, searches);
    }

    // ---- small helpers

    private static long mix(long h, long number) {
        return 31 * h + number;
    }

    private static long mixAll(long start, int[] numbers, int length) {
        long h = start;
        for (int i = 0; i < length; i++) {
            h = mix(h, numbers[i]);
        }
        return h;
    }

    private static boolean within(int v, int low, int high) {
        return v >= low && v <= high;
    }

    private static boolean isSign(int c) {
        return within(c, 0, SIGN_COUNT - 1);
    }

    private static boolean isPart(int part) {
        return within(part, 0, 1);
    }

    /** A part of i to the q: the part with i of a number is the part without i of the number one turn less. */
    private static int partOfTurn(int q, int part) {
        int quarter = (q - part) & 3;
        if (quarter == 0) {
            return 1;
        }
        return quarter == 2 ? -1 : 0;
    }

    /** At least 1 for any two numbers, so that it may always divide. */
    private static long commonDivisor(long a, long b) {
        long greater = a;
        long less = b;
        // Euclid needs fewer than a hundred steps for any two longs
        for (int step = 0; step < 1000 && less != 0; step++) {
            long left = greater % less;
            greater = less;
            less = left;
        }
        return greater >= 1 ? greater : 1;
    }

    /** A row of quarter turns. */
    private static final class Sign {
        static final int LONGEST = 16;
        static final int LATEST = 15;

        final int[] turns = new int[LONGEST];
        int length = 1;

        boolean has(int i) {
            return within(i, 0, length - 1);
        }

        void reset(int n) {
            length = n;
            for (int i = 0; i < n; i++) {
                turns[i] = 0;
            }
        }

        void copy(Sign from) {
            length = from.length;
            for (int i = 0; i < from.length; i++) {
                turns[i] = from.turns[i];
            }
        }

        void reverse() {
            for (int i = 0; i < length / 2; i++) {
                int front = turns[i];
                turns[i] = turns[length - 1 - i];
                turns[length - 1 - i] = front;
            }
        }

        void mirror() {
            for (int i = 0; i < length; i++) {
                turns[i] = -turns[i] & 3;
            }
        }

        void advance() {
            for (int i = 0; i < length; i++) {
                turns[i] = (turns[i] + 1) & 3;
            }
        }

        /** The highest of n bits comes first; a bit stands for a turn 2. */
        void takeBits(int bits, int n) {
            length = n;
            for (int i = 0; i < n; i++) {
                turns[i] = (bits >> (n - 1 - i) & 1) * 2;
            }
        }

        int lookPart(Sign other, int late, int speed, int part) {
            int sum = 0;
            for (int n = 0; n < length; n++) {
                if (other.has(n + late)) {
                    sum += partOfTurn(turns[n] - other.turns[n + late] + speed * n, part);
                }
            }
            return sum;
        }

        int ownLookSize(int late, int speed) {
            int without = lookPart(this, late, speed, 0);
            int with = lookPart(this, late, speed, 1);
            return without * without + with * with;
        }

        int greatestSide() {
            int most = 0;
            for (int late = 1; late < length; late++) {
                most = Math.max(most, ownLookSize(late, 0));
            }
            return most;
        }

        int sumOfSides() {
            int sum = 0;
            for (int late = 1; late < length; late++) {
                sum += ownLookSize(late, 0);
            }
            return sum;
        }

        int greatestOwnLook() {
            int most = 0;
            for (int late = -LATEST; late <= LATEST; late++) {
                for (int speed = 0; speed <= 3; speed++) {
                    if (late != 0 || speed != 0) {
                        most = Math.max(most, ownLookSize(late, speed));
                    }
                }
            }
            return most;
        }

        boolean sidesGoOutWith(Sign other) {
            if (length != other.length) {
                return false;
            }
            for (int late = 1; late < length; late++) {
                for (int part = 0; part <= 1; part++) {
                    if (lookPart(this, late, 0, part) + other.lookPart(other, late, 0, part) != 0) {
                        return false;
                    }
                }
            }
            return true;
        }
    }

    /** The search for the best sign of a length; signs of turns 0 and 2 are held as bits, the front highest. */
    private static final class Search {
        static int leastSided(int n) {
            int best = 0;
            int bestPeak = peakOf(0, n, n * n);
            int bestFlank = flankOf(0, n);
            // A sign that begins with 2 has the sides of its negative, which begins with 0 and so comes first
            int end = 1 << (n - 1);
            for (int bits = 1; bits < end; bits++) {
                int peak = peakOf(bits, n, bestPeak);
                if (peak > bestPeak) {
                    continue;
                }
                int flank = flankOf(bits, n);
                if (peak < bestPeak || flank < bestFlank) {
                    best = bits;
                    bestPeak = peak;
                    bestFlank = flank;
                }
            }
            return best;
        }

        /** The peak, or a side that is above the limit: most signs are passed over after few sides. */
        static int peakOf(int bits, int n, int limit) {
            int most = 0;
            for (int late = 1; late < n && most <= limit; late++) {
                most = Math.max(most, side(bits, n, late));
            }
            return most;
        }

        static int flankOf(int bits, int n) {
            int sum = 0;
            for (int late = 1; late < n; late++) {
                sum += side(bits, n, late);
            }
            return sum;
        }

        /** Of the n less late products, those of unlike turns are -1 and the others 1. */
        static int side(int bits, int n, int late) {
            int together = n - late;
            int unlike = Integer.bitCount((bits ^ bits >> late) & ((1 << together) - 1));
            int look = together - 2 * unlike;
            return look * look;
        }
    }

    /** The filter and what it answers to a sign. */
    private static final class Filter {
        static final int LONGEST = 24;
        static final int GREATEST = 50;
        static final int ALONE = 1000000;

        final int[] numbers = new int[LONGEST];
        int length = 1;

        Filter() {
            numbers[0] = 1;
        }

        void reset(int n) {
            length = n;
            for (int j = 0; j < n; j++) {
                numbers[j] = 0;
            }
        }

        void matchTo(Sign sign) {
            length = sign.length;
            for (int j = 0; j < sign.length; j++) {
                numbers[j] = partOfTurn(-sign.turns[sign.length - 1 - j], 0);
            }
        }

        int answerPart(Sign sign, int k, int part) {
            int sum = 0;
            for (int j = 0; j < length; j++) {
                if (sign.has(k - j)) {
                    sum += numbers[j] * partOfTurn(sign.turns[k - j], part);
                }
            }
            return sum;
        }

        int answerSize(Sign sign, int k) {
            int without = answerPart(sign, k, 0);
            int with = answerPart(sign, k, 1);
            return without * without + with * with;
        }

        int greatestPlace(Sign sign) {
            int place = 0;
            int most = answerSize(sign, 0);
            for (int k = 1; k < length + sign.length - 1; k++) {
                int size = answerSize(sign, k);
                if (size > most) {
                    place = k;
                    most = size;
                }
            }
            return place;
        }

        int clearness(Sign sign) {
            int place = greatestPlace(sign);
            int most = answerSize(sign, place);
            if (most == 0) {
                return 0;
            }
            int second = 0;
            for (int k = 0; k < length + sign.length - 1; k++) {
                if (k != place) {
                    second = Math.max(second, answerSize(sign, k));
                }
            }
            return second == 0 ? ALONE : 10 * most / second;
        }
    }

    /** The rests and what is read of them. */
    private static final class Rests {
        static final int MOST = 4;
        static final int SHORTEST = 2;
        static final int LONGEST = 60;
        static final int GREATEST_MISS = 5;
        static final int GREATEST_SPAN = 5000;

        final int[] periods = new int[MOST];
        final int[] readings = new int[MOST];
        int length;

        Rests() {
            reset(1);
        }

        static boolean mayUnfold(int e, int m, int span) {
            return within(e, 0, GREATEST_MISS) && within(m, 1, MOST) && within(span, 1, GREATEST_SPAN);
        }

        boolean has(int i) {
            return within(i, 0, length - 1);
        }

        void reset(int n) {
            length = n;
            for (int i = 0; i < MOST; i++) {
                periods[i] = SHORTEST;
                readings[i] = NONE;
            }
        }

        int foldedBy(int i, int r) {
            int period = periods[i];
            // it is 2 or more at all times, but a divisor is looked at where it divides
            return period >= SHORTEST ? r % period : 0;
        }

        void readAll(int r) {
            for (int i = 0; i < length; i++) {
                readings[i] = foldedBy(i, r);
            }
        }

        boolean isNear(int i, int r, int e) {
            if (readings[i] == NONE) {
                return false;
            }
            int away = Math.abs(readings[i] - foldedBy(i, r));
            return Math.min(away, periods[i] - away) <= e;
        }

        boolean fits(int r, int e, int m) {
            int near = 0;
            for (int i = 0; i < length; i++) {
                if (isNear(i, r, e)) {
                    near++;
                }
            }
            return near >= m;
        }

        int fitting(int e, int m, int span) {
            int many = 0;
            for (int r = 0; r < span; r++) {
                if (fits(r, e, m)) {
                    many++;
                }
            }
            return many;
        }

        int fittingAt(int e, int m, int span, int j) {
            int before = 0;
            for (int r = 0; r < span; r++) {
                if (fits(r, e, m)) {
                    if (before == j) {
                        return r;
                    }
                    before++;
                }
            }
            return NONE;
        }

        int leastCommon() {
            long all = 1;
            for (int i = 0; i < length; i++) {
                all *= periods[i] / commonDivisor(all, periods[i]);
            }
            return (int) all;
        }

        /**
         * How many speeds are blind for each of the rests from first to last. One is for a rest just if it is a
         * multiple of round by the greatest divisor that round has in common with the rest, so the count is the
         * greatest divisor that all of them have in common.
         */
        int unseen(int first, int last, int round) {
            long all = round;
            for (int i = first; i <= last; i++) {
                all = commonDivisor(all, periods[i]);
            }
            return (int) all;
        }
    }

    /** The row and what stands out of it. */
    private static final class Row {
        static final int LONGEST = 64;
        static final int GREATEST = 10000;
        static final int WIDEST = 8;
        static final int GREATEST_GAP = 3;
        static final int GREATEST_ORDER = 8;
        static final int GREATEST_SCALE = 500;

        final int[] numbers = new int[LONGEST];
        int length = 0;
        // the neighbours of one place, the least first: made once and used by every search
        private final int[] ordered = new int[2 * WIDEST];

        static boolean maySeek(int w, int g, int k, int s) {
            return within(w, 1, WIDEST) && within(g, 0, GREATEST_GAP)
                    && within(k, 1, GREATEST_ORDER) && within(s, 1, GREATEST_SCALE);
        }

        boolean append(int v) {
            if (length >= LONGEST) {
                return false;
            }
            numbers[length] = v;
            length++;
            return true;
        }

        boolean standsOut(int x, int w, int g, int k, int s) {
            int neighbours = orderNeighbours(x, w, g);
            return neighbours >= k && 10 * numbers[x] > s * ordered[k - 1];
        }

        int standingOut(int w, int g, int k, int s) {
            int many = 0;
            for (int x = 0; x < length; x++) {
                if (standsOut(x, w, g, k, s)) {
                    many++;
                }
            }
            return many;
        }

        private int orderNeighbours(int x, int w, int g) {
            int many = 0;
            for (int away = g + 1; away <= g + w; away++) {
                if (x - away >= 0) {
                    insert(numbers[x - away], many);
                    many++;
                }
                if (x + away < length) {
                    insert(numbers[x + away], many);
                    many++;
                }
            }
            return many;
        }

        private void insert(int number, int many) {
            int at = many;
            while (at > 0 && ordered[at - 1] > number) {
                ordered[at] = ordered[at - 1];
                at--;
            }
            ordered[at] = number;
        }
    }

    /** The share of false things found. */
    private static final class Chance {
        static final int MOST = 8;
        static final int GREATEST_SCALE = 40;

        static boolean mayOrder(int n, int k) {
            return within(n, 1, MOST) && within(k, 1, n);
        }

        /** What stands above the share for more 0, and below it for more s: at most 48 times .. times 41. */
        static long product(int n, int k, int more) {
            long all = 1;
            for (int i = 0; i < k; i++) {
                all *= n - i + more;
            }
            return all;
        }

        static int leastScale(int n, int k, int u) {
            long above = product(n, k, 0);
            for (int s = 1; s <= GREATEST_SCALE; s++) {
                if (above * u <= product(n, k, s)) {
                    return s;
                }
            }
            return NONE;
        }
    }
}
