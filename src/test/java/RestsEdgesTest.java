import java.util.Arrays;

/** The boundary cases of promises 18 to 25. */
public final class RestsEdgesTest {
    private static final Edges EDGES = new Edges(18, 25);
    private static final int MIN = Case.MIN;
    private static final int MAX = Case.MAX;
    private static final int IT = Case.IT;
    private static final int NONE = Case.NONE;
    private static final int UNKNOWN = Case.UNKNOWN;
    private static final int OUTSIDE = Case.OUTSIDE;

    public static void main(String[] args) {
        rests();
        restRefused();
        rest();
        readRefused();
        read();
        fold();
        unfoldRefused("unfold", 22);
        unfold();
        unfoldRound();
        unfoldEnough();
        unfoldRefused("unfolded", 23);
        unfolded();
        common();
        blindRefused();
        blind();
        EDGES.end();
    }

    /** What is READ, which is asked for by putting NONE, and the P that is then found. */
    private static void dueRests(Case x, int[]... wanted) {
        x.due(wanted.length, "told", 1);
        for (int i = 0; i < wanted.length; i++) {
            x.due(wanted[i][1], "read", i, NONE);
            x.due(wanted[i][0], "rest", i, 2);
        }
        x.refused(UNKNOWN, "rest", wanted.length, 2);
    }

    private static void rests() {
        EDGES.test(18, "OUTSIDE: n is 1 at least", x -> {
            x.filled();
            x.due(1, "rests", 1);
            x.ready("fold", 1);
            x.eachRefused(OUTSIDE, new int[] {0, -1, MIN}, "rests", IT);
        });
        EDGES.test(18, "OUTSIDE: n is 4 at most", x -> {
            x.filled();
            x.due(4, "rests", 4);
            x.ready("fold", 1);
            x.eachRefused(OUTSIDE, new int[] {5, 6, MAX}, "rests", IT);
        });
        EDGES.test(18, "the same number: 2 each, nothing READ", x -> {
            x.filled();
            x.due(3, "rests", 3);
            dueRests(x, new int[] {2, NONE}, new int[] {2, NONE}, new int[] {2, NONE});
        });
        EDGES.test(18, "fewer, and then more: what was cut off does not come back", x -> {
            x.rests(7, 8, 9, 10);
            x.ready("fold", 6);
            x.due(1, "rests", 1);
            x.due(4, "rests", 4);
            int[] two = {2, NONE};
            dueRests(x, two, two, two, two);
        });
        EDGES.test(18, "one: 2, nothing READ", x -> {
            x.rests(7);
            x.ready("fold", 6);
            x.due(1, "rests", 1);
            dueRests(x, new int[] {2, NONE});
        });
    }

    private static void restRefused() {
        EDGES.test(19, "UNKNOWN: i is 0 at least", x -> {
            x.filled();
            x.due(7, "rest", 0, 5);
            x.eachRefused(UNKNOWN, new int[] {-1, -2, MIN}, "rest", IT, 5);
        });
        EDGES.test(19, "UNKNOWN: i is below the number of RESTS", x -> {
            x.filled();
            x.due(10, "rest", 2, 5);
            x.eachRefused(UNKNOWN, new int[] {3, 4, MAX}, "rest", IT, 5);
        });
        EDGES.test(19, "UNKNOWN: i of four is 3 at most", x -> {
            x.ready("rests", 4);
            x.due(2, "rest", 3, 5);
            x.refused(UNKNOWN, "rest", 4, 5);
        });
        EDGES.test(19, "UNKNOWN: i that was cut off", x -> {
            x.rests(5, 6);
            x.ready("rests", 1);
            x.due(2, "rest", 0, 5);
            x.refused(UNKNOWN, "rest", 1, 5);
        });
        EDGES.test(19, "OUTSIDE: P is 2 at least", x -> {
            x.filled();
            x.due(7, "rest", 0, 2);
            x.eachRefused(OUTSIDE, new int[] {1, 0, -1, MIN}, "rest", 1, IT);
        });
        EDGES.test(19, "OUTSIDE: P is 60 at most", x -> {
            x.filled();
            x.due(7, "rest", 0, 60);
            x.eachRefused(OUTSIDE, new int[] {61, 62, MAX}, "rest", 1, IT);
        });
        EDGES.test(19, "UNKNOWN ahead of OUTSIDE", x -> {
            x.filled();
            x.refused(UNKNOWN, "rest", 3, 1);
            x.refused(UNKNOWN, "rest", -1, 61);
        });
    }

    private static void rest() {
        EDGES.test(19, "nothing is READ of it then, of the others it is", x -> {
            x.filled();
            x.due(9, "rest", 1, 30);
            dueRests(x, new int[] {7, 4}, new int[] {30, NONE}, new int[] {10, 5});
        });
        EDGES.test(19, "nothing is READ of it then, though P is what it was", x -> {
            x.filled();
            x.due(9, "rest", 1, 9);
            dueRests(x, new int[] {7, 4}, new int[] {9, NONE}, new int[] {10, 5});
        });
        EDGES.test(19, "a refused one keeps what is READ", x -> {
            x.filled();
            x.refused(OUTSIDE, "rest", 1, 61);
            x.due(7, "read", 1, 7);
        });
    }

    private static void readRefused() {
        EDGES.test(20, "UNKNOWN: i is 0 at least", x -> {
            x.filled();
            x.due(4, "read", 0, 1);
            x.eachRefused(UNKNOWN, new int[] {-1, -2, MIN}, "read", IT, 1);
        });
        EDGES.test(20, "UNKNOWN: i is below the number of RESTS", x -> {
            x.filled();
            x.due(5, "read", 2, 1);
            x.eachRefused(UNKNOWN, new int[] {3, 4, MAX}, "read", IT, 1);
        });
        EDGES.test(20, "UNKNOWN: i of four is 3 at most", x -> {
            x.ready("rests", 4);
            x.due(NONE, "read", 3, 1);
            x.refused(UNKNOWN, "read", 4, 1);
        });
        EDGES.test(20, "UNKNOWN: i that was cut off", x -> {
            x.ready("rests", 4);
            x.ready("fold", 1);
            x.ready("rests", 1);
            x.due(NONE, "read", 0, 1);
            x.refused(UNKNOWN, "read", 1, 1);
        });
        EDGES.test(20, "OUTSIDE: v is 0 at least, but NONE is no refusal", x -> {
            x.filled();
            x.due(4, "read", 0, 0);
            x.due(0, "read", 0, NONE);
            x.due(NONE, "read", 0, 3);
            x.eachRefused(OUTSIDE, new int[] {-2, -3, MIN}, "read", 0, IT);
        });
        EDGES.test(20, "OUTSIDE: v is P less 1 at most", x -> {
            x.filled();
            x.due(4, "read", 0, 6);
            x.eachRefused(OUTSIDE, new int[] {7, 8, MAX}, "read", 0, IT);
            x.due(7, "read", 1, 8);
            x.refused(OUTSIDE, "read", 1, 9);
        });
        EDGES.test(20, "OUTSIDE: v for the least P and the greatest", x -> {
            x.rests(2, 60);
            x.due(NONE, "read", 0, 1);
            x.refused(OUTSIDE, "read", 0, 2);
            x.due(NONE, "read", 1, 59);
            x.refused(OUTSIDE, "read", 1, 60);
        });
        EDGES.test(20, "OUTSIDE: v is measured by the P that is", x -> {
            x.rests(60);
            x.ready("read", 0, 59);
            x.ready("rest", 0, 3);
            x.refused(OUTSIDE, "read", 0, 3);
            x.due(NONE, "read", 0, 2);
        });
        EDGES.test(20, "UNKNOWN ahead of OUTSIDE", x -> {
            x.filled();
            x.refused(UNKNOWN, "read", 3, 60);
            x.refused(UNKNOWN, "read", -1, -2);
        });
    }

    private static void read() {
        EDGES.test(20, "what it was: NONE, a number, the same, NONE again", x -> {
            x.rests(5);
            x.due(NONE, "read", 0, NONE);
            x.due(NONE, "read", 0, 0);
            x.due(0, "read", 0, 4);
            x.due(4, "read", 0, 4);
            x.due(4, "read", 0, NONE);
            x.due(NONE, "read", 0, NONE);
        });
        EDGES.test(20, "P stays, and the other RESTS", x -> {
            x.filled();
            x.due(7, "read", 1, NONE);
            dueRests(x, new int[] {7, 4}, new int[] {9, NONE}, new int[] {10, 5});
        });
    }

    private static void fold() {
        EDGES.test(21, "OUTSIDE: r is 0 at least", x -> {
            x.filled();
            x.due(3, "fold", 0);
            x.ready("fold", 8);
            x.eachRefused(OUTSIDE, new int[] {-1, -2, MIN}, "fold", IT);
        });
        EDGES.test(21, "OUTSIDE: r is 1000000 at most", x -> {
            x.filled();
            x.due(3, "fold", 1000000);
            x.eachRefused(OUTSIDE, new int[] {1000001, 1000002, MAX}, "fold", IT);
            dueRests(x, new int[] {7, 1}, new int[] {9, 1}, new int[] {10, 0});
        });
        EDGES.test(21, "P less 1, P, and P and 1", x -> {
            x.rests(7, 60);
            x.ready("fold", 6);
            x.due(6, "read", 0, 6);
            x.due(6, "read", 1, 6);
            x.ready("fold", 7);
            x.due(0, "read", 0, 0);
            x.ready("fold", 59);
            x.due(59, "read", 1, 59);
            x.ready("fold", 60);
            x.due(0, "read", 1, 0);
            x.ready("fold", 61);
            x.due(1, "read", 1, 1);
        });
        for (int n = 1; n <= 4; n++) {
            int many = n;
            EDGES.test(21, "how many RESTS: " + n, x -> {
                x.ready("rests", many);
                x.due(many, "fold", 3);
                int[][] want = new int[many][];
                Arrays.fill(want, new int[] {2, 1});
                dueRests(x, want);
            });
        }
        EDGES.test(21, "of all RESTS, missed or not", x -> {
            x.rests(5, 6);
            x.ready("read", 0, 4);
            x.due(2, "fold", 13);
            dueRests(x, new int[] {5, 3}, new int[] {6, 1});
        });
    }

    /** unfold and unfolded are refused alike. */
    private static void unfoldRefused(String name, int promise) {
        int[] last = name.equals("unfold") ? new int[0] : new int[] {0};
        EDGES.test(promise, "OUTSIDE: e is 0 at least", x -> {
            all(x, name, last, 0, 1, 9);
            x.eachRefused(OUTSIDE, new int[] {-1, -2, MIN}, name, with(last, IT, 1, 9));
        });
        EDGES.test(promise, "OUTSIDE: e is 5 at most", x -> {
            all(x, name, last, 5, 1, 9);
            x.eachRefused(OUTSIDE, new int[] {6, 7, MAX}, name, with(last, IT, 1, 9));
        });
        EDGES.test(promise, "OUTSIDE: m is 1 at least", x -> {
            all(x, name, last, 5, 1, 9);
            x.eachRefused(OUTSIDE, new int[] {0, -1, MIN}, name, with(last, 5, IT, 9));
        });
        EDGES.test(promise, "OUTSIDE: m is 4 at most", x -> {
            all(x, name, last, 5, 4, 9);
            x.eachRefused(OUTSIDE, new int[] {5, 6, MAX}, name, with(last, 5, IT, 9));
        });
        EDGES.test(promise, "OUTSIDE: span is 1 at least", x -> {
            all(x, name, last, 5, 1, 1);
            x.eachRefused(OUTSIDE, new int[] {0, -1, MIN}, name, with(last, 5, 1, IT));
        });
        EDGES.test(promise, "OUTSIDE: span is 5000 at most", x -> {
            all(x, name, last, 5, 1, 5000);
            x.eachRefused(OUTSIDE, new int[] {5001, 5002, MAX}, name, with(last, 5, 1, IT));
        });
    }

    /** Four RESTS by which all r FIT, even by 0. */
    private static void all(Case x, String name, int[] last, int e, int m, int span) {
        x.ready("rests", 4);
        x.ready("fold", 0);
        x.ready("read", 3, e == 0 ? 1 : 0);
        x.due(last.length == 0 ? span : 0, name, with(last, e, m, span));
    }

    private static int[] with(int[] last, int... first) {
        int[] joined = Arrays.copyOf(first, first.length + last.length);
        System.arraycopy(last, 0, joined, first.length, last.length);
        return joined;
    }

    private static void unfold() {
        EDGES.test(22, "SPAN less 1 is the last r", x -> {
            x.rests(60);
            x.ready("fold", 20);
            x.due(0, "unfold", 0, 1, 20);
            x.due(1, "unfold", 0, 1, 21);
            x.due(1, "unfold", 0, 1, 80);
            x.due(2, "unfold", 0, 1, 81);
        });
        EDGES.test(22, "0 is the first r", x -> {
            x.rests(60);
            x.ready("fold", 0);
            x.due(1, "unfold", 0, 1, 1);
            x.ready("fold", 1);
            x.due(0, "unfold", 0, 1, 1);
        });
        EDGES.test(22, "the widest SPAN: 4999 is in, 5000 is not", x -> {
            x.rests(59, 60, 7);
            x.ready("fold", 4999);
            x.due(0, "unfold", 0, 3, 4999);
            x.due(1, "unfold", 0, 3, 5000);
            x.due(4999, "unfolded", 0, 3, 5000, 0);
            x.ready("fold", 5000);
            x.due(0, "unfold", 0, 3, 5000);
        });
        EDGES.test(22, "all are UNFOLDED", x -> {
            x.ready("rests", 4);
            x.ready("fold", 1);
            x.due(5000, "unfold", 5, 4, 5000);
        });
        EDGES.test(22, "nothing is READ: none", x -> {
            x.rests(7, 9);
            x.due(0, "unfold", 5, 1, 5000);
        });
    }

    private static void unfoldRound() {
        for (int e = 0; e <= 5; e++) {
            int away = e;
            EDGES.test(22, "E away at most: " + e + " both ways", x -> {
                x.rests(60);
                x.ready("read", 0, 30);
                x.due(2 * away + 1, "unfold", away, 1, 60);
                x.due(30 - away, "unfolded", away, 1, 60, 0);
                x.due(30 + away, "unfolded", away, 1, 60, 2 * away);
                x.refused(NONE, "unfolded", away, 1, 60, 2 * away + 1);
            });
            EDGES.test(22, "round: " + e + " away from 0, which comes behind P less 1", x -> {
                x.rests(60);
                x.ready("read", 0, 0);
                x.due(2 * away + 1, "unfold", away, 1, 60);
                x.due(0, "unfolded", away, 1, 60, 0);
                x.due(away == 0 ? 0 : 59, "unfolded", away, 1, 60, 2 * away);
                x.due(away, "unfolded", away, 1, 60, away);
                x.due(away + 1, "unfold", away, 1, 60 - away);
            });
            EDGES.test(22, "round: " + e + " away from P less 1", x -> {
                x.rests(60);
                x.ready("read", 0, 59);
                x.due(2 * away + 1, "unfold", away, 1, 60);
                x.due(away == 0 ? 59 : 0, "unfolded", away, 1, 60, 0);
                x.due(59 - away, "unfolded", away, 1, 60, away);
                x.due(away, "unfold", away, 1, 59 - away);
            });
            EDGES.test(22, "E " + e + " and a P of twice that, less and more", x -> {
                // round a P of 2 E or 2 E and 1 nothing is further away, round 2 E and 2 one number is
                for (int p = Math.max(2, 2 * away); p <= 2 * away + 2; p++) {
                    x.rests(p);
                    x.ready("read", 0, p - 1);
                    x.due(Math.min(p, 2 * away + 1), "unfold", away, 1, p);
                }
            });
        }
    }

    private static void unfoldEnough() {
        for (int many = 1; many <= 4; many++) {
            int read = many;
            EDGES.test(22, "of at least m RESTS, where " + many + " of four are near", x -> {
                x.rests(11, 13, 17, 19);
                for (int i = 0; i < 4; i++) {
                    x.ready("read", i, i < read ? 0 : 9);
                }
                for (int m = 1; m <= 4; m++) {
                    x.due(m <= read ? 1 : 0, "unfold", 0, m, 1);
                }
            });
            EDGES.test(22, "a REST that is missed never counts, where " + many + " of four are READ", x -> {
                x.rests(11, 13, 17, 19);
                for (int i = 0; i < read; i++) {
                    x.ready("read", i, 0);
                }
                for (int m = 1; m <= 4; m++) {
                    x.due(m <= read ? 1 : 0, "unfold", 5, m, 1);
                }
            });
            EDGES.test(22, "m above the number of RESTS, " + many + ", is not refused", x -> {
                x.ready("rests", read);
                x.ready("fold", 0);
                for (int m = 1; m <= 4; m++) {
                    x.due(m <= read ? 9 : 0, "unfold", 5, m, 9);
                }
            });
        }
        EDGES.test(22, "missed by NONE, though E reaches from 0 to -1", x -> {
            x.rests(10);
            x.ready("fold", 0);
            x.due(3, "unfold", 1, 1, 10);
            x.ready("read", 0, NONE);
            x.due(0, "unfold", 1, 1, 10);
        });
        EDGES.test(22, "a REST that was cut off does not count", x -> {
            x.rests(5, 5);
            x.ready("fold", 0);
            x.ready("rests", 1);
            x.ready("fold", 0);
            x.due(1, "unfold", 0, 1, 1);
            x.due(0, "unfold", 0, 2, 1);
        });
    }

    private static void unfolded() {
        EDGES.test(23, "the first is 0, below it is NONE", x -> {
            x.rests(7);
            x.ready("fold", 3);
            x.due(3, "unfolded", 0, 1, 20, 0);
            x.eachRefused(NONE, new int[] {-1, -2, MIN}, "unfolded", 0, 1, 20, IT);
        });
        EDGES.test(23, "NONE behind the last", x -> {
            x.rests(7);
            x.ready("fold", 3);
            x.due(3, "unfold", 0, 1, 20);
            x.due(17, "unfolded", 0, 1, 20, 2);
            x.eachRefused(NONE, new int[] {3, 4, 5000, MAX}, "unfolded", 0, 1, 20, IT);
        });
        EDGES.test(23, "NONE where none is UNFOLDED", x -> {
            x.rests(7);
            x.refused(NONE, "unfolded", 5, 1, 5000, 0);
            x.ready("fold", 3);
            x.refused(NONE, "unfolded", 0, 2, 5000, 0);
            x.refused(NONE, "unfolded", 0, 1, 3, 0);
            x.due(3, "unfolded", 0, 1, 4, 0);
        });
        EDGES.test(23, "the last of all in the widest SPAN", x -> {
            x.ready("fold", 0);
            x.due(4999, "unfolded", 1, 1, 5000, 4999);
            x.refused(NONE, "unfolded", 1, 1, 5000, 5000);
        });
        EDGES.test(23, "OUTSIDE ahead of NONE", x -> {
            x.ready("fold", 0);
            x.refused(OUTSIDE, "unfolded", 6, 1, 9, -1);
            x.refused(OUTSIDE, "unfolded", 0, 0, 9, MAX);
            x.refused(OUTSIDE, "unfolded", 0, 1, 5001, 6000);
        });
    }

    private static void common() {
        EDGES.test(24, "one REST: its own P, the least and the greatest", x -> {
            x.due(2, "common");
            x.rests(60);
            x.due(60, "common");
        });
        EDGES.test(24, "like RESTS", x -> {
            x.rests(7, 7, 7, 7);
            x.due(7, "common");
        });
        EDGES.test(24, "one is a multiple of the other, in either order", x -> {
            x.rests(4, 12);
            x.due(12, "common");
            x.rests(12, 4);
            x.due(12, "common");
        });
        EDGES.test(24, "nothing in common", x -> {
            x.rests(4, 9, 25);
            x.due(900, "common");
        });
        EDGES.test(24, "something in common, by twos and threes", x -> {
            x.rests(6, 10, 15);
            x.due(30, "common");
            x.rests(4, 6, 9);
            x.due(36, "common");
            x.rests(8, 12, 18, 27);
            x.due(216, "common");
        });
        EDGES.test(24, "the greatest that there is", x -> {
            x.rests(59, 58, 57, 55);
            x.due(10727970, "common");
        });
        EDGES.test(24, "a REST that was cut off does not count", x -> {
            x.rests(5, 7);
            x.ready("rests", 1);
            x.due(2, "common");
        });
        EDGES.test(24, "what is READ does not count", x -> {
            x.rests(5, 7);
            x.due(35, "common");
            x.ready("fold", 3);
            x.due(35, "common");
        });
    }

    private static void blindRefused() {
        EDGES.test(25, "UNKNOWN: i is 0 at least, but NONE is all", x -> {
            x.filled();
            x.due(7, "blind", 0, 7);
            x.due(1, "blind", NONE, 7);
            x.eachRefused(UNKNOWN, new int[] {-2, -3, MIN}, "blind", IT, 7);
        });
        EDGES.test(25, "UNKNOWN: i is below the number of RESTS", x -> {
            x.filled();
            x.due(5, "blind", 2, 5);
            x.eachRefused(UNKNOWN, new int[] {3, 4, MAX}, "blind", IT, 5);
        });
        EDGES.test(25, "UNKNOWN: i of four is 3 at most", x -> {
            x.ready("rests", 4);
            x.due(2, "blind", 3, 6);
            x.refused(UNKNOWN, "blind", 4, 6);
        });
        EDGES.test(25, "UNKNOWN: i that was cut off", x -> {
            x.rests(6, 6);
            x.ready("rests", 1);
            x.due(2, "blind", 0, 6);
            x.refused(UNKNOWN, "blind", 1, 6);
        });
        EDGES.test(25, "OUTSIDE: round is 1 at least", x -> {
            x.filled();
            x.due(1, "blind", 0, 1);
            x.due(1, "blind", NONE, 1);
            x.eachRefused(OUTSIDE, new int[] {0, -1, MIN}, "blind", 0, IT);
            x.eachRefused(OUTSIDE, new int[] {0, -1, MIN}, "blind", NONE, IT);
        });
        EDGES.test(25, "OUTSIDE: round is 3600 at most", x -> {
            x.filled();
            x.due(9, "blind", 1, 3600);
            x.due(1, "blind", NONE, 3600);
            x.eachRefused(OUTSIDE, new int[] {3601, 3602, MAX}, "blind", 1, IT);
            x.eachRefused(OUTSIDE, new int[] {3601, 3602, MAX}, "blind", NONE, IT);
        });
        EDGES.test(25, "UNKNOWN ahead of OUTSIDE", x -> {
            x.filled();
            x.refused(UNKNOWN, "blind", 3, 0);
            x.refused(UNKNOWN, "blind", -2, 3601);
        });
    }

    private static void blind() {
        EDGES.test(25, "speed 0 is always BLIND, alone if nothing is in common", x -> {
            x.rests(7, 8);
            x.due(1, "blind", 0, 9);
            x.due(1, "blind", NONE, 9);
        });
        EDGES.test(25, "all speeds to ROUND less 1, if P is a multiple of ROUND", x -> {
            x.rests(60);
            for (int round : new int[] {1, 2, 3, 30, 59, 60, 61, 120, 3600}) {
                x.due(round == 59 || round == 61 ? 1 : Math.min(round, 60), "blind", 0, round);
            }
        });
        EDGES.test(25, "for all RESTS it is so for each, the last too", x -> {
            x.rests(12, 12, 12, 12);
            x.due(12, "blind", NONE, 24);
            x.ready("rest", 3, 8);
            x.due(4, "blind", NONE, 24);
            x.ready("rest", 0, 7);
            x.due(1, "blind", NONE, 24);
        });
        EDGES.test(25, "for all RESTS, if there is one", x -> {
            x.rests(12);
            x.due(12, "blind", NONE, 36);
            x.due(12, "blind", 0, 36);
        });
        EDGES.test(25, "speeds counted one by one", x -> {
            x.rests(18, 24, 45);
            for (int round : new int[] {1, 7, 9, 36, 90, 97, 360, 3599, 3600}) {
                int[] periods = {18, 24, 45};
                for (int i = NONE; i < 3; i++) {
                    int many = 0;
                    for (int v = 0; v < round; v++) {
                        boolean so = true;
                        for (int r = 0; r < 3; r++) {
                            so &= i != NONE && i != r || v * periods[r] % round == 0;
                        }
                        many += so ? 1 : 0;
                    }
                    x.due(many, "blind", i, round);
                }
            }
        });
    }
}
