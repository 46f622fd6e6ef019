import java.util.Random;

/** All promises: long runs of calls, each answer beside the one of Model. The seeds are written, so each run is the same. */
public final class ModelTest {
    private static final int RUNS = 1000;
    // an object is used for 512 calls, and one step of a run makes 18 at most
    private static final int MOST_CALLS = 512;
    private static final int MOST_IN_STEP = 18;
    private static final int[] WILD = {Integer.MIN_VALUE, Integer.MAX_VALUE, -2, 70, 10001, 1000001};

    private final Check check;
    private final Random random;
    private final PulseSigns x = new PulseSigns();
    private final Model y = new Model();
    private String call = "";
    private int calls = 0;

    private ModelTest(Check check, long seed) {
        this.check = check;
        this.random = new Random(seed);
    }

    public static void main(String[] args) {
        Check check = new Check();
        for (int run = 0; run < RUNS; run++) {
            new ModelTest(check, run).run(run);
        }
        everyBest(check);
        everyShare(check);
        check.end();
    }

    private static void everyBest(Check check) {
        PulseSigns x = new PulseSigns();
        Model y = new Model();
        for (int n = 1; n <= 12; n++) {
            check.due("best(0, " + n + ")", x.best(0, n), y.best(0, n));
            check.due("digest() behind best(0, " + n + ")", x.digest(), y.digest());
        }
    }

    private static void everyShare(Check check) {
        Model y = new Model();
        for (int n = 0; n <= 9; n++) {
            for (int k = 0; k <= 9; k++) {
                PulseSigns x = new PulseSigns();
                for (int s = 0; s <= 41; s++) {
                    for (int part = 0; part <= 1; part++) {
                        String how = "share(" + n + ", " + k + ", " + s + ", " + part + ")";
                        check.due(how, x.share(n, k, s, part), y.share(n, k, s, part));
                    }
                }
            }
        }
    }

    private void run(int run) {
        for (int i = 0; calls + MOST_IN_STEP <= MOST_CALLS; i++) {
            // every other run stays with one part of the class, so that its state goes deep
            int method = run % 2 == 0 ? random.nextInt(32) : narrow(run);
            both("run " + run + ", call " + i + ": ", method);
            check.due("digest() behind " + call, x.digest(), y.digest());
            calls++;
        }
    }

    private int narrow(int run) {
        switch (run / 2 % 3) {
            case 0:
                return random.nextInt(16);
            case 1:
                return 16 + random.nextInt(8);
            default:
                return random.nextInt(3) > 0 ? 24 : 24 + random.nextInt(8);
        }
    }

    /** Mostly a number from low to high, now and then one beside them or a wild one. */
    private int some(int low, int high) {
        int dice = random.nextInt(60);
        if (dice == 0) {
            return low - 1;
        }
        if (dice == 1) {
            return high + 1;
        }
        if (dice == 2) {
            return WILD[random.nextInt(WILD.length)];
        }
        if (dice < 8) {
            return dice % 2 == 0 ? low : high;
        }
        return low + random.nextInt(high - low + 1);
    }

    private int sign() {
        return some(0, 5);
    }

    private void due(String where, String name, long got, long want, int... with) {
        StringBuilder text = new StringBuilder(where).append(name).append('(');
        for (int i = 0; i < with.length; i++) {
            text.append(i == 0 ? "" : ", ").append(with[i]);
        }
        call = text.append(')').toString();
        calls++;
        check.due(call, got, want);
    }

    private void both(String at, int method) {
        if (method < 10) {
            bothSigns(at, method);
        } else if (method < 16) {
            bothFilter(at, method);
        } else if (method < 24) {
            bothRests(at, method);
        } else {
            bothRow(at, method);
        }
    }

    private void bothSigns(String at, int method) {
        int a = sign();
        int b = sign();
        int n = some(1, 16);
        int q = some(0, 3);
        int k = some(-15, 15);
        int part = some(0, 1);
        switch (method) {
            case 0: due(at, "size", x.size(a, n), y.size(a, n), a, n); break;
            case 1:
                due(at, "turn", x.turn(a, n - 1, q), y.turn(a, n - 1, q), a, n - 1, q);
                for (int i = 0; i < 16; i++) {
                    int turn = random.nextInt(4);
                    due(at, "turn", x.turn(a, i, turn), y.turn(a, i, turn), a, i, turn);
                }
                break;
            case 2: due(at, "turned", x.turned(a, n - 1), y.turned(a, n - 1), a, n - 1); break;
            case 3: due(at, "made", x.made(a, b, q), y.made(a, b, q), a, b, q); break;
            case 4: due(at, "look", x.look(a, b, k, q, part), y.look(a, b, k, q, part), a, b, k, q, part); break;
            case 5: due(at, "peak", x.peak(a), y.peak(a), a); break;
            case 6: due(at, "flank", x.flank(a), y.flank(a), a); break;
            case 7: due(at, "worst", x.worst(a), y.worst(a), a); break;
            case 8: due(at, "best", x.best(a, n), y.best(a, n), a, n); break;
            default: due(at, "pair", x.pair(a, b), y.pair(a, b), a, b); break;
        }
    }

    private void bothFilter(String at, int method) {
        int c = sign();
        int n = some(1, 24);
        int v = some(-50, 50);
        int k = some(0, 40);
        int part = some(0, 1);
        switch (method) {
            case 10: due(at, "filter", x.filter(n), y.filter(n), n); break;
            case 11:
                due(at, "weight", x.weight(n - 1, v), y.weight(n - 1, v), n - 1, v);
                for (int j = 0; j < 24; j++) {
                    int w = random.nextInt(7) - 3;
                    due(at, "weight", x.weight(j, w), y.weight(j, w), j, w);
                }
                break;
            case 12: due(at, "own", x.own(c), y.own(c), c); break;
            case 13: due(at, "answer", x.answer(c, k, part), y.answer(c, k, part), c, k, part); break;
            case 14: due(at, "greatest", x.greatest(c), y.greatest(c), c); break;
            default: due(at, "clear", x.clear(c), y.clear(c), c); break;
        }
    }

    private void bothRests(String at, int method) {
        int i = some(0, 3);
        int n = some(1, 4);
        int p = some(2, 60);
        int e = some(0, 5);
        int r = some(0, 1000000);
        int span = random.nextInt(10) == 0 ? some(1, 5000) : some(1, 300);
        int round = some(1, 3600);
        switch (method) {
            case 16: due(at, "rests", x.rests(n), y.rests(n), n); break;
            case 17: due(at, "rest", x.rest(i, p), y.rest(i, p), i, p); break;
            case 18: due(at, "read", x.read(i, p - 3), y.read(i, p - 3), i, p - 3); break;
            case 19: due(at, "fold", x.fold(r), y.fold(r), r); break;
            case 20: due(at, "unfold", x.unfold(e, n, span), y.unfold(e, n, span), e, n, span); break;
            case 21: due(at, "unfolded", x.unfolded(e, n, span, p - 2), y.unfolded(e, n, span, p - 2), e, n, span, p - 2); break;
            case 22: due(at, "common", x.common(), y.common()); break;
            default: due(at, "blind", x.blind(i - 1, round), y.blind(i - 1, round), i - 1, round); break;
        }
    }

    private void bothRow(String at, int method) {
        int v = random.nextInt(4) == 0 ? some(0, 10000) : some(0, 30);
        int p = some(0, 63);
        int w = some(1, 8);
        int g = some(0, 3);
        int k = random.nextInt(2) == 0 ? some(1, 8) : some(1, 2);
        int s = random.nextInt(2) == 0 ? some(1, 500) : some(5, 20);
        int u = random.nextInt(2) == 0 ? some(1, 1000000000) : some(1, 3000);
        switch (method) {
            case 24: due(at, "put", x.put(v), y.put(v), v); break;
            case 25:
                if (random.nextInt(8) == 0) {
                    due(at, "empty", x.empty(), y.empty());
                }
                break;
            case 26:
            case 27: due(at, "found", x.found(p, w, g, k, s), y.found(p, w, g, k, s), p, w, g, k, s); break;
            case 28: due(at, "count", x.count(w, g, k, s), y.count(w, g, k, s), w, g, k, s); break;
            case 29: due(at, "share", x.share(w, k, s, p), y.share(w, k, s, p), w, k, s, p); break;
            case 30: due(at, "scale", x.scale(w, k, u), y.scale(w, k, u), w, k, u); break;
            default: due(at, "told", x.told(g), y.told(g), g); break;
        }
    }
}
