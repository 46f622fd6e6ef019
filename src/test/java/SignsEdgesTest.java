import java.util.Arrays;

/** The boundary cases of promises 1 to 11. */
public final class SignsEdgesTest {
    private static final Edges EDGES = new Edges(1, 11);
    private static final int MIN = Case.MIN;
    private static final int MAX = Case.MAX;
    private static final int IT = Case.IT;
    private static final int NONE = Case.NONE;
    private static final int UNKNOWN = Case.UNKNOWN;
    private static final int OUTSIDE = Case.OUTSIDE;
    private static final int FULL = Case.FULL;
    private static final int[] NO_SIGNS = {-1, 6, 7, MIN, MAX};

    public static void main(String[] args) {
        newObject();
        callsInAll();
        size();
        turnNames();
        turn();
        turned();
        madeRefused();
        made();
        lookRefused();
        look();
        peak();
        flank();
        worst();
        bestRefused();
        best();
        pair();
        EDGES.end();
    }

    private static int[] zeros(int n) {
        return new int[n];
    }

    private static void newObject() {
        EDGES.test(1, "SIGNS are 0 to 5", x -> {
            x.due(0, "turned", 0, 0);
            x.due(0, "turned", 5, 0);
            x.refused(UNKNOWN, "turned", -1, 0);
            x.refused(UNKNOWN, "turned", 6, 0);
        });
        EDGES.test(1, "each SIGN is at first one 0", x -> {
            for (int c = 0; c <= 5; c++) {
                x.dueSign(c, 0);
            }
        });
        EDGES.test(1, "THE FILTER is at first one 1", x -> {
            x.due(1, "told", 0);
            x.due(1, "weight", 0, 1);
            x.refused(-1000, "weight", 1, 1);
        });
        EDGES.test(1, "RESTS are at first one 2", x -> {
            x.due(1, "told", 1);
            x.due(2, "rest", 0, 2);
            x.refused(UNKNOWN, "rest", 1, 2);
        });
        EDGES.test(1, "READ is missed at first", x -> x.due(NONE, "read", 0, NONE));
        EDGES.test(1, "THE ROW is empty", x -> {
            x.due(0, "told", 2);
            x.refused(UNKNOWN, "found", 0, 1, 0, 1, 1);
            x.due(0, "empty");
        });
        EDGES.test(1, "best was not done yet", x -> x.due(0, "told", 3));
        EDGES.test(1, "another object is new although this one is used", x -> {
            PulseSigns used = new PulseSigns();
            used.best(0, 5);
            used.own(0);
            used.rests(4);
            used.fold(1);
            used.put(1);
            x.due(new PulseSigns().digest(), "digest");
            x.dueSign(0, 0);
        });
    }

    private static void callsInAll() {
        EDGES.test(1, "an object is used for 512 calls", x -> {
            PulseSigns used = new PulseSigns();
            for (int call = 1; call <= 512; call++) {
                x.same(call == 1 ? 0 : call - 1 & 3, used.turn(5, 0, call & 3), "call " + call);
            }
        });
    }

    private static void size() {
        EDGES.test(2, "UNKNOWN: c is 0 to 5", x -> {
            x.filled();
            x.due(3, "size", 0, 3);
            x.due(3, "size", 5, 3);
            x.eachRefused(UNKNOWN, NO_SIGNS, "size", IT, 3);
        });
        EDGES.test(2, "OUTSIDE: n is 1 at least", x -> {
            x.filled();
            x.due(1, "size", 2, 1);
            x.eachRefused(OUTSIDE, new int[] {0, -1, MIN}, "size", 5, IT);
        });
        EDGES.test(2, "OUTSIDE: n is 16 at most", x -> {
            x.filled();
            x.due(16, "size", 2, 16);
            x.eachRefused(OUTSIDE, new int[] {17, 18, MAX}, "size", 5, IT);
        });
        EDGES.test(2, "UNKNOWN ahead of OUTSIDE", x -> {
            x.filled();
            x.refused(UNKNOWN, "size", 6, 0);
            x.refused(UNKNOWN, "size", -1, 17);
        });
        EDGES.test(2, "the same length is made of 0 again", x -> {
            x.sign(3, 1, 2, 3);
            x.due(3, "size", 3, 3);
            x.dueSign(3, 0, 0, 0);
        });
        EDGES.test(2, "what was behind a shorter one does not come back", x -> {
            x.sign(3, 1, 2, 3, 3);
            x.due(1, "size", 3, 1);
            x.dueSign(3, 0);
            x.due(4, "size", 3, 4);
            x.dueSign(3, 0, 0, 0, 0);
        });
        EDGES.test(2, "all of sixteen are 0", x -> {
            x.filled();
            x.due(16, "size", 5, 16);
            x.dueSign(5, zeros(16));
        });
        EDGES.test(2, "the others stay", x -> {
            x.sign(1, 1, 2);
            x.sign(3, 3, 3);
            x.due(5, "size", 2, 5);
            x.dueSign(1, 1, 2);
            x.dueSign(3, 3, 3);
        });
    }

    private static void turnNames() {
        EDGES.test(3, "UNKNOWN: c is 0 to 5", x -> {
            x.filled();
            x.due(1, "turn", 0, 0, 2);
            x.due(1, "turn", 5, 0, 2);
            x.eachRefused(UNKNOWN, NO_SIGNS, "turn", IT, 0, 1);
        });
        EDGES.test(3, "UNKNOWN: i is 0 at least", x -> {
            x.filled();
            x.due(0, "turn", 3, 0, 2);
            x.eachRefused(UNKNOWN, new int[] {-1, -2, MIN}, "turn", 3, IT, 1);
        });
        EDGES.test(3, "UNKNOWN: i is the length less 1 at most", x -> {
            x.filled();
            x.due(1, "turn", 3, 3, 2);
            x.eachRefused(UNKNOWN, new int[] {4, 5, 15, 16, MAX}, "turn", 3, IT, 1);
        });
        EDGES.test(3, "UNKNOWN: i of one TURN is 0 alone", x -> {
            x.due(0, "turn", 4, 0, 3);
            x.refused(UNKNOWN, "turn", 4, 1, 3);
            x.refused(UNKNOWN, "turn", 4, -1, 3);
        });
        EDGES.test(3, "UNKNOWN: i of sixteen TURNS is 15 at most", x -> {
            x.filled();
            x.due(1, "turn", 5, 15, 2);
            x.refused(UNKNOWN, "turn", 5, 16, 2);
        });
        EDGES.test(3, "UNKNOWN: i that was cut off", x -> {
            x.sign(2, 1, 1, 1);
            x.ready("size", 2, 2);
            x.due(0, "turn", 2, 1, 3);
            x.refused(UNKNOWN, "turn", 2, 2, 3);
        });
    }

    private static void turn() {
        EDGES.test(3, "OUTSIDE: q is 0 at least", x -> {
            x.filled();
            x.due(1, "turn", 5, 0, 0);
            x.eachRefused(OUTSIDE, new int[] {-1, -2, MIN}, "turn", 5, 1, IT);
        });
        EDGES.test(3, "OUTSIDE: q is 3 at most", x -> {
            x.filled();
            x.due(1, "turn", 5, 0, 3);
            x.eachRefused(OUTSIDE, new int[] {4, 5, MAX}, "turn", 5, 1, IT);
        });
        EDGES.test(3, "UNKNOWN ahead of OUTSIDE", x -> {
            x.filled();
            x.refused(UNKNOWN, "turn", 6, 0, 4);
            x.refused(UNKNOWN, "turn", -1, 0, -1);
            x.refused(UNKNOWN, "turn", 3, 4, 4);
            x.refused(UNKNOWN, "turn", 3, -1, -1);
        });
        EDGES.test(3, "what it was is 0 at first, then what was put", x -> {
            x.ready("size", 1, 2);
            int before = 0;
            for (int q : new int[] {3, 3, 0, 2, 1, 0}) {
                x.due(before, "turn", 1, 1, q);
                before = q;
            }
            x.dueSign(1, 0, 0);
        });
    }

    private static void turned() {
        EDGES.test(4, "UNKNOWN: c is 0 to 5", x -> {
            x.filled();
            x.due(1, "turned", 0, 0);
            x.due(1, "turned", 5, 15);
            x.eachRefused(UNKNOWN, NO_SIGNS, "turned", IT, 0);
        });
        EDGES.test(4, "NONE: i below 0", x -> {
            x.filled();
            x.due(1, "turned", 5, 0);
            x.eachRefused(NONE, new int[] {-1, -2, MIN}, "turned", 5, IT);
        });
        EDGES.test(4, "NONE: i at the length and above", x -> {
            x.filled();
            x.due(1, "turned", 3, 3);
            x.eachRefused(NONE, new int[] {4, 5, 15, 16, MAX}, "turned", 3, IT);
        });
        EDGES.test(4, "NONE: i behind one, and behind sixteen", x -> {
            x.filled();
            x.due(1, "turned", 0, 0);
            x.refused(NONE, "turned", 0, 1);
            x.due(1, "turned", 5, 15);
            x.refused(NONE, "turned", 5, 16);
        });
        EDGES.test(4, "NONE: i that was cut off", x -> {
            x.sign(2, 1, 1, 1);
            x.ready("made", 2, 0, 0);
            x.due(0, "turned", 2, 0);
            x.refused(NONE, "turned", 2, 1);
        });
        EDGES.test(4, "UNKNOWN ahead of NONE", x -> {
            x.refused(UNKNOWN, "turned", 6, -1);
            x.refused(UNKNOWN, "turned", -1, 16);
        });
    }

    private static void madeRefused() {
        EDGES.test(5, "UNKNOWN: a is 0 to 5", x -> {
            x.filled();
            x.due(1, "made", 2, 0, 2);
            x.due(16, "made", 2, 5, 2);
            x.eachRefused(UNKNOWN, NO_SIGNS, "made", 2, IT, 2);
        });
        EDGES.test(5, "UNKNOWN: c is 0 to 5", x -> {
            x.filled();
            x.due(4, "made", 0, 3, 2);
            x.due(4, "made", 5, 3, 2);
            x.eachRefused(UNKNOWN, NO_SIGNS, "made", IT, 3, 2);
        });
        EDGES.test(5, "UNKNOWN: a and c", x -> x.refused(UNKNOWN, "made", -1, 6, 0));
        EDGES.test(5, "OUTSIDE: side is 0 at least", x -> {
            x.filled();
            x.due(16, "made", 2, 5, 0);
            x.eachRefused(OUTSIDE, new int[] {-1, -2, MIN}, "made", 3, 5, IT);
        });
        EDGES.test(5, "OUTSIDE: side is 2 at most", x -> {
            x.filled();
            x.due(16, "made", 2, 5, 2);
            x.eachRefused(OUTSIDE, new int[] {3, 4, MAX}, "made", 3, 5, IT);
        });
        EDGES.test(5, "UNKNOWN ahead of OUTSIDE", x -> {
            x.filled();
            x.refused(UNKNOWN, "made", 6, 0, 3);
            x.refused(UNKNOWN, "made", 0, 6, -1);
        });
    }

    private static void made() {
        EDGES.test(5, "each one more: 3 becomes 0", x -> {
            x.sign(0, 0, 1, 2, 3);
            x.due(4, "made", 1, 0, 2);
            x.dueSign(1, 1, 2, 3, 0);
        });
        EDGES.test(5, "the other way round: 0 and 2 stay, 1 and 3 change", x -> {
            x.sign(0, 0, 1, 2, 3);
            x.due(4, "made", 1, 0, 1);
            x.dueSign(1, 0, 3, 2, 1);
        });
        EDGES.test(5, "back to front: an even and an odd length", x -> {
            x.sign(0, 0, 1, 2, 3);
            x.due(4, "made", 1, 0, 0);
            x.dueSign(1, 3, 2, 1, 0);
            x.sign(0, 0, 1, 3);
            x.due(3, "made", 1, 0, 0);
            x.dueSign(1, 3, 1, 0);
        });
        for (int side = 0; side <= 2; side++) {
            int way = side;
            EDGES.test(5, "of itself, side " + side, x -> {
                x.sign(4, 0, 1, 1, 3, 2);
                x.due(5, "made", 4, 4, way);
                int[][] want = {{2, 3, 1, 1, 0}, {0, 3, 3, 1, 2}, {1, 2, 2, 0, 3}};
                x.dueSign(4, want[way]);
            });
            EDGES.test(5, "of one TURN, side " + side, x -> {
                x.sign(4, 1);
                x.due(1, "made", 3, 4, way);
                x.dueSign(3, new int[] {1, 3, 2}[way]);
            });
            EDGES.test(5, "of sixteen TURNS, side " + side, x -> {
                int[] given = {0, 1, 2, 3, 3, 2, 1, 0, 0, 0, 1, 1, 2, 2, 3, 3};
                x.sign(4, given);
                x.due(16, "made", 3, 4, way);
                int[][] want = {{3, 3, 2, 2, 1, 1, 0, 0, 0, 1, 2, 3, 3, 2, 1, 0},
                    {0, 3, 2, 1, 1, 2, 3, 0, 0, 0, 3, 3, 2, 2, 1, 1},
                    {1, 2, 3, 0, 0, 3, 2, 1, 1, 1, 2, 2, 3, 3, 0, 0}};
                x.dueSign(3, want[way]);
                x.dueSign(4, given);
            });
        }
        EDGES.test(5, "a longer one becomes as short as a", x -> {
            x.ready("size", 1, 16);
            x.sign(2, 1, 2);
            x.due(2, "made", 1, 2, 0);
            x.dueSign(1, 2, 1);
        });
    }

    private static void lookRefused() {
        EDGES.test(6, "-1000: a is 0 to 5", x -> {
            x.filled();
            x.due(1, "look", 0, 0, 0, 0, 0);
            x.due(16, "look", 5, 5, 0, 0, 0);
            x.eachRefused(-1000, NO_SIGNS, "look", IT, 5, 0, 0, 0);
        });
        EDGES.test(6, "-1000: b is 0 to 5", x -> {
            x.filled();
            x.due(1, "look", 5, 0, 0, 0, 0);
            x.due(1, "look", 0, 5, 0, 0, 0);
            x.eachRefused(-1000, NO_SIGNS, "look", 5, IT, 0, 0, 0);
        });
        EDGES.test(6, "-1001: k is -15 at least", x -> {
            x.ready("size", 0, 16);
            x.due(1, "look", 0, 0, -15, 0, 0);
            x.eachRefused(-1001, new int[] {-16, -17, MIN}, "look", 0, 0, IT, 0, 0);
        });
        EDGES.test(6, "-1001: k is 15 at most", x -> {
            x.ready("size", 0, 16);
            x.due(1, "look", 0, 0, 15, 0, 0);
            x.eachRefused(-1001, new int[] {16, 17, MAX}, "look", 0, 0, IT, 0, 0);
        });
        EDGES.test(6, "-1001: d is 0 at least", x -> {
            x.due(1, "look", 0, 0, 0, 0, 0);
            x.eachRefused(-1001, new int[] {-1, -2, -4, MIN}, "look", 0, 0, 0, IT, 0);
        });
        EDGES.test(6, "-1001: d is 3 at most", x -> {
            x.due(1, "look", 0, 0, 0, 3, 0);
            x.eachRefused(-1001, new int[] {4, 5, MAX}, "look", 0, 0, 0, IT, 0);
        });
        EDGES.test(6, "-1001: part is 0 or 1", x -> {
            x.sign(1, 1);
            x.due(0, "look", 1, 0, 0, 0, 0);
            x.due(1, "look", 1, 0, 0, 0, 1);
            x.eachRefused(-1001, new int[] {-1, -2, 2, 3, MIN, MAX}, "look", 1, 0, 0, 0, IT);
        });
        EDGES.test(6, "-1000 ahead of -1001", x -> {
            x.refused(-1000, "look", 6, 0, 16, 0, 0);
            x.refused(-1000, "look", -1, 0, 0, 4, 0);
            x.refused(-1000, "look", 0, 6, 0, 0, 2);
            x.refused(-1000, "look", 0, -1, -16, -1, -1);
        });
    }

    private static void look() {
        EDGES.test(6, "0 outside of it: LATES at the length and beyond", x -> {
            x.ready("size", 0, 3);
            x.due(1, "look", 0, 0, 2, 0, 0);
            x.due(0, "look", 0, 0, 3, 0, 0);
            x.due(0, "look", 0, 0, 15, 0, 0);
            x.due(1, "look", 0, 0, -2, 0, 0);
            x.due(0, "look", 0, 0, -3, 0, 0);
            x.due(0, "look", 0, 0, -15, 0, 0);
        });
        EDGES.test(6, "0 outside of it: a shorter one beside a longer one", x -> {
            x.ready("size", 0, 3);
            x.ready("size", 1, 5);
            int[] late = {0, 1, 2, 3, 3, 3, 2, 1, 0};
            int[] early = {0, 1, 2, 3, 3, 3, 2, 1, 0};
            for (int k = -3; k <= 5; k++) {
                x.due(late[k + 3], "look", 0, 1, k, 0, 0);
                x.due(early[5 - k], "look", 1, 0, -k, 0, 0);
            }
        });
        EDGES.test(6, "0 outside of it: what was cut off does not count", x -> {
            x.ready("size", 0, 5);
            x.ready("size", 0, 2);
            x.due(2, "look", 0, 0, 0, 0, 0);
            x.due(0, "look", 0, 0, 2, 0, 0);
        });
        EDGES.test(6, "the LATE is of b, not of a", x -> {
            x.sign(0, 0, 1);
            // a(0) b(1) turned the other way: -i; a(1) b(0): i
            x.due(-1, "look", 0, 0, 1, 0, 1);
            x.due(1, "look", 0, 0, -1, 0, 1);
        });
        EDGES.test(6, "the SPEED turns by n of a, round behind four", x -> {
            x.ready("size", 0, 16);
            x.ready("size", 1, 1);
            // a(n) b(0) alone, n being -k: i to the d n
            int[] without = {1, 0, -1, 0};
            for (int n = 0; n <= 15; n++) {
                for (int d = 1; d <= 3; d++) {
                    x.due(without[d * n % 4], "look", 0, 1, -n, d, 0);
                    x.due(without[(d * n + 3) % 4], "look", 0, 1, -n, d, 1);
                }
            }
        });
        EDGES.test(6, "each TURN against each: the difference, round", x -> {
            int[] without = {1, 0, -1, 0};
            for (int p = 0; p < 4; p++) {
                for (int q = 0; q < 4; q++) {
                    x.ready("turn", 0, 0, p);
                    x.ready("turn", 1, 0, q);
                    x.due(without[(p - q + 4) % 4], "look", 0, 1, 0, 0, 0);
                    x.due(without[(p - q + 7) % 4], "look", 0, 1, 0, 0, 1);
                }
            }
        });
        EDGES.test(6, "the greatest and the least PARTS there are", x -> {
            x.ready("size", 0, 16);
            for (int turns = 1; turns <= 3; turns++) {
                x.ready("made", turns, turns - 1, 2);
            }
            x.due(16, "look", 0, 0, 0, 0, 0);
            x.due(16, "look", 1, 0, 0, 0, 1);
            x.due(-16, "look", 2, 0, 0, 0, 0);
            x.due(-16, "look", 3, 0, 0, 0, 1);
        });
    }

    private static void peak() {
        EDGES.test(7, "UNKNOWN: c is 0 to 5", x -> {
            x.ready("size", 0, 2);
            x.ready("size", 5, 3);
            x.due(1, "peak", 0);
            x.due(4, "peak", 5);
            x.eachRefused(UNKNOWN, NO_SIGNS, "peak", IT);
        });
        EDGES.test(7, "0 of a SIGN of one, whatever its TURN", x -> {
            for (int q = 0; q <= 3; q++) {
                x.ready("turn", 2, 0, q);
                x.due(0, "peak", 2);
            }
            x.ready("size", 2, 2);
            x.due(1, "peak", 2);
        });
        EDGES.test(7, "LATE 1 is the first", x -> {
            x.ready("size", 0, 16);
            x.due(225, "peak", 0);
        });
        EDGES.test(7, "the last LATE is the length less 1", x -> {
            // LATE 1: -i and i go out; LATE 2 alone is left
            x.sign(0, 0, 1, 0);
            x.due(1, "peak", 0);
        });
        EDGES.test(7, "SPEED 0 alone", x -> {
            // worst() has 144 here
            x.sign(0, 0, 0, 0, 0, 0, 1, 2, 3, 0, 2, 0, 2, 0, 3, 2, 1);
            x.due(2, "peak", 0);
        });
        EDGES.test(7, "both PARTS count", x -> {
            x.sign(0, 0, 1, 2, 3);
            x.due(9, "peak", 0);
            x.sign(0, 0, 0, 1);
            x.due(2, "peak", 0);
        });
    }

    private static void flank() {
        EDGES.test(8, "UNKNOWN: c is 0 to 5", x -> {
            x.ready("size", 0, 2);
            x.ready("size", 5, 3);
            x.due(1, "flank", 0);
            x.due(5, "flank", 5);
            x.eachRefused(UNKNOWN, NO_SIGNS, "flank", IT);
        });
        EDGES.test(8, "0 of a SIGN of one", x -> {
            x.due(0, "flank", 2);
            x.ready("size", 2, 2);
            x.due(1, "flank", 2);
        });
        EDGES.test(8, "LATES 1 to the length less 1, of sixteen", x -> {
            x.ready("size", 0, 16);
            x.due(1240, "flank", 0);
        });
        EDGES.test(8, "the last LATE alone", x -> {
            x.sign(0, 0, 1, 0);
            x.due(1, "flank", 0);
        });
        EDGES.test(8, "both PARTS count", x -> {
            x.sign(0, 0, 0, 1);
            x.due(3, "flank", 0);
        });
    }

    private static void worst() {
        EDGES.test(9, "UNKNOWN: c is 0 to 5", x -> {
            x.ready("size", 0, 3);
            x.ready("size", 5, 4);
            x.due(4, "worst", 0);
            x.due(9, "worst", 5);
            x.eachRefused(UNKNOWN, NO_SIGNS, "worst", IT);
        });
        EDGES.test(9, "LATE 0 counts at SPEEDS 1 to 3: a SIGN of one", x -> x.due(1, "worst", 3));
        EDGES.test(9, "LATE 0 counts at SPEEDS 1 to 3: a SIGN of two", x -> {
            // LATE 1 has 1 alone; LATE 0 at SPEED 1 has 1 and i
            x.ready("size", 3, 2);
            x.due(2, "worst", 3);
        });
        EDGES.test(9, "both 0 do not count", x -> {
            x.ready("size", 3, 16);
            x.due(225, "worst", 3);
        });
        EDGES.test(9, "SPEED 0 counts at other LATES", x -> {
            x.ready("size", 3, 4);
            x.due(9, "worst", 3);
        });
        for (int d = 1; d <= 3; d++) {
            int speed = d;
            EDGES.test(9, "SPEED " + d + " counts at other LATES", x -> {
                // a(n) against a(n and 1) falls back by d each time, which the SPEED makes good
                int[] turns = new int[8];
                for (int n = 1, step = 0; n < 8; n++, step += speed) {
                    turns[n] = (turns[n - 1] + step) & 3;
                }
                x.sign(3, turns);
                x.due(7, "look", 3, 3, 1, speed, 0);
                x.due(49, "worst", 3);
            });
        }
    }

    private static void bestRefused() {
        EDGES.test(10, "UNKNOWN: c is 0 to 5", x -> {
            x.filled();
            x.due(1, "best", 0, 5);
            x.due(1, "best", 5, 5);
            x.eachRefused(UNKNOWN, NO_SIGNS, "best", IT, 5);
        });
        EDGES.test(10, "OUTSIDE: n is 1 at least", x -> {
            x.filled();
            x.due(0, "best", 2, 1);
            x.eachRefused(OUTSIDE, new int[] {0, -1, MIN}, "best", 5, IT);
        });
        EDGES.test(10, "OUTSIDE: n is 12 at most", x -> {
            x.filled();
            x.due(4, "best", 2, 12);
            x.eachRefused(OUTSIDE, new int[] {13, 16, MAX}, "best", 5, IT);
        });
        EDGES.test(10, "FULL: it was done 30 times", x -> {
            for (int time = 0; time < 29; time++) {
                x.ready("best", 0, 3);
            }
            x.due(29, "told", 3);
            x.due(1, "best", 1, 4);
            x.due(30, "told", 3);
            x.refused(FULL, "best", 2, 4);
            x.refused(FULL, "best", 1, 4);
            x.due(30, "told", 3);
            x.dueSign(2, 0);
        });
        EDGES.test(10, "FULL: what was refused was not done", x -> {
            for (int time = 0; time < 29; time++) {
                x.ready("best", 0, 1);
                x.refused(OUTSIDE, "best", 0, 13);
                x.refused(UNKNOWN, "best", 6, 1);
            }
            x.due(29, "told", 3);
            x.due(1, "best", 0, 2);
            x.refused(FULL, "best", 0, 2);
        });
        EDGES.test(10, "UNKNOWN ahead of OUTSIDE", x -> {
            x.refused(UNKNOWN, "best", 6, 0);
            x.refused(UNKNOWN, "best", -1, 13);
        });
        EDGES.test(10, "UNKNOWN and OUTSIDE ahead of FULL", x -> {
            for (int time = 0; time < 30; time++) {
                x.ready("best", 0, 2);
            }
            x.refused(UNKNOWN, "best", 6, 3);
            x.refused(UNKNOWN, "best", 6, 13);
            x.refused(OUTSIDE, "best", 0, 13);
            x.refused(OUTSIDE, "best", 0, 0);
            x.refused(FULL, "best", 0, 1);
        });
    }

    private static void best() {
        EDGES.test(10, "of one TURN: 0", x -> {
            x.sign(1, 3, 3);
            x.due(0, "best", 1, 1);
            x.dueSign(1, 0);
        });
        EDGES.test(10, "of like ones the first: all of two are like", x -> {
            x.due(1, "best", 1, 2);
            x.dueSign(1, 0, 0);
        });
        EDGES.test(10, "of like ones the first, a 0 being less than a 2, from the front", x -> {
            // 0 0 2 and 0 2 2 are like, and so are 0 0 0 2 and 0 0 2 0
            x.due(1, "best", 1, 3);
            x.dueSign(1, 0, 0, 2);
            x.due(1, "best", 1, 4);
            x.dueSign(1, 0, 0, 0, 2);
        });
        EDGES.test(10, "of like PEAKS the least FLANK, though it comes later", x -> {
            // 0 0 0 0 2 0 2 2 has PEAK 4 too and comes first, but its FLANK is 16
            x.due(4, "best", 1, 8);
            x.dueSign(1, 0, 0, 0, 0, 2, 2, 0, 2);
            x.due(8, "flank", 1);
        });
        EDGES.test(10, "the least PEAK, though it comes later", x -> {
            x.due(1, "best", 1, 11);
            x.dueSign(1, 0, 0, 0, 2, 2, 2, 0, 2, 2, 0, 2);
        });
        for (int n = 1; n <= 12; n++) {
            int length = n;
            EDGES.test(10, "no SIGN of " + n + " is better, none that is like comes first", x -> {
                int[] want = bestOf(length);
                x.due(peakOf(want), "best", 4, length);
                x.dueSign(4, want);
            });
        }
    }

    /** All of them, one behind the other, the plain way. */
    private static int[] bestOf(int n) {
        int[] best = null;
        for (int number = 0; number < 1 << n; number++) {
            int[] turns = new int[n];
            for (int i = 0; i < n; i++) {
                turns[i] = (number >> (n - 1 - i)) % 2 * 2;
            }
            if (best == null || peakOf(turns) < peakOf(best)
                    || peakOf(turns) == peakOf(best) && Arrays.stream(sides(turns)).sum() < Arrays.stream(sides(best)).sum()) {
                best = turns;
            }
        }
        return best;
    }

    private static int peakOf(int[] turns) {
        return Arrays.stream(sides(turns)).max().orElse(0);
    }

    private static int[] sides(int[] turns) {
        int[] sides = new int[turns.length - 1];
        for (int late = 1; late < turns.length; late++) {
            int sum = 0;
            for (int n = 0; n + late < turns.length; n++) {
                sum += turns[n] == turns[n + late] ? 1 : -1;
            }
            sides[late - 1] = sum * sum;
        }
        return sides;
    }

    private static void pair() {
        EDGES.test(11, "UNKNOWN: a is 0 to 5", x -> {
            x.due(1, "pair", 0, 2);
            x.due(1, "pair", 5, 2);
            x.eachRefused(UNKNOWN, NO_SIGNS, "pair", IT, 2);
        });
        EDGES.test(11, "UNKNOWN: b is 0 to 5", x -> {
            x.due(1, "pair", 2, 0);
            x.due(1, "pair", 2, 5);
            x.eachRefused(UNKNOWN, NO_SIGNS, "pair", 2, IT);
        });
        EDGES.test(11, "two of one TURN have no LATES", x -> {
            x.sign(1, 3);
            x.due(1, "pair", 0, 1);
            x.due(1, "pair", 1, 1);
        });
        EDGES.test(11, "two SIGNS of one length: others are none", x -> {
            // at LATE 1, the only one that both have, these are 1 and -1
            x.sign(0, 0, 0);
            x.sign(2, 0, 2, 0, 0);
            x.due(1, "look", 0, 0, 1, 0, 0);
            x.due(-1, "look", 2, 2, 1, 0, 0);
            x.due(0, "pair", 0, 2);
            x.due(0, "pair", 2, 0);
            x.due(0, "pair", 3, 0);
            x.due(0, "pair", 0, 3);
        });
        EDGES.test(11, "PART 0 is left", x -> {
            x.sign(0, 0, 0);
            x.sign(1, 0, 1);
            x.due(0, "pair", 0, 1);
            x.due(0, "pair", 1, 0);
        });
        EDGES.test(11, "PART 1 alone is left", x -> {
            x.sign(0, 0, 1);
            x.due(0, "pair", 0, 0);
            x.sign(1, 0, 3);
            x.due(1, "pair", 0, 1);
        });
        EDGES.test(11, "the first LATE alone is left", x -> {
            // LATE 1: 2 and 0, LATE 2: 1 and -1
            x.sign(0, 0, 0, 0);
            x.sign(1, 0, 0, 2);
            x.due(0, "pair", 0, 1);
        });
        EDGES.test(11, "the last LATE alone is left", x -> {
            // LATE 1: 0 and 0, LATE 2: -1 and -1
            x.sign(0, 0, 0, 2);
            x.sign(1, 0, 2, 2);
            x.due(0, "pair", 0, 1);
            x.sign(1, 0, 1, 0);
            x.due(1, "pair", 0, 1);
        });
        EDGES.test(11, "two of sixteen", x -> {
            x.sign(0, 0, 0, 0, 2, 0, 0, 2, 0, 0, 0, 0, 2, 2, 2, 0, 2);
            x.sign(1, 0, 0, 0, 2, 0, 0, 2, 0, 2, 2, 2, 0, 0, 0, 2, 0);
            x.due(1, "pair", 0, 1);
            x.ready("turn", 1, 15, 2);
            x.due(0, "pair", 0, 1);
        });
        EDGES.test(11, "a SIGN and itself", x -> {
            x.sign(0, 0, 2);
            x.due(0, "pair", 0, 0);
            x.due(1, "pair", 4, 4);
        });
    }
}
