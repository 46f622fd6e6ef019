/** Promises 18 to 25. */
public final class RestsTest {
    private static final Check CHECK = new Check();
    private static final int MIN = Integer.MIN_VALUE;
    private static final int MAX = Integer.MAX_VALUE;

    public static void main(String[] args) {
        rests();
        rest();
        read();
        fold();
        unfold();
        unfoldRound();
        unfolded();
        common();
        blind();
        CHECK.end();
    }

    private static void due(String call, long got, long want) {
        CHECK.due(call, got, want);
    }

    private static PulseSigns with(int... periods) {
        PulseSigns x = new PulseSigns();
        x.rests(periods.length);
        for (int i = 0; i < periods.length; i++) {
            x.rest(i, periods[i]);
        }
        return x;
    }

    private static void rests() {
        PulseSigns x = with(7, 8, 9, 10);
        x.fold(5);
        due("rests(1)", x.rests(1), 1);
        due("told(1)", x.told(1), 1);
        due("rests(4)", x.rests(4), 4);
        for (int i = 0; i < 4; i++) {
            due("nothing read of " + i, x.read(i, PulseSigns.NONE), PulseSigns.NONE);
            due("two each, " + i, x.rest(i, 3), 2);
        }
        x.fold(2);
        long before = x.digest();
        for (int n : new int[] {0, 5, -1, MIN, MAX}) {
            CHECK.refused("rests(" + n + ")", x, before, x.rests(n), PulseSigns.OUTSIDE);
        }
    }

    private static void rest() {
        PulseSigns x = with(7, 9);
        x.fold(4);
        due("rest(0, 60)", x.rest(0, 60), 7);
        due("nothing is read of it", x.read(0, 59), PulseSigns.NONE);
        due("the other is read still", x.read(1, 8), 4);
        due("rest(0, 60) again", x.rest(0, 60), 60);
        due("nothing is read of a like one", x.read(0, 1), PulseSigns.NONE);
        due("rest(0, 2)", x.rest(0, 2), 60);
        x.read(0, 1);
        long before = x.digest();
        for (int p : new int[] {1, 0, 61, -1, MIN, MAX}) {
            CHECK.refused("rest(0, " + p + ")", x, before, x.rest(0, p), PulseSigns.OUTSIDE);
            CHECK.refused("rest(2, " + p + ")", x, before, x.rest(2, p), PulseSigns.UNKNOWN);
        }
        for (int i : new int[] {-1, 2, 4, MIN, MAX}) {
            CHECK.refused("rest(" + i + ", 5)", x, before, x.rest(i, 5), PulseSigns.UNKNOWN);
        }
    }

    private static void read() {
        PulseSigns x = with(7, 9);
        due("read(0, 6)", x.read(0, 6), PulseSigns.NONE);
        due("read(0, 0)", x.read(0, 0), 6);
        due("read(0, NONE)", x.read(0, PulseSigns.NONE), 0);
        due("read(0, 3)", x.read(0, 3), PulseSigns.NONE);
        due("read(1, 8)", x.read(1, 8), PulseSigns.NONE);
        long before = x.digest();
        for (int v : new int[] {-2, 7, 8, MIN, MAX}) {
            CHECK.refused("read(0, " + v + ")", x, before, x.read(0, v), PulseSigns.OUTSIDE);
            CHECK.refused("read(2, " + v + ")", x, before, x.read(2, v), PulseSigns.UNKNOWN);
        }
        for (int i : new int[] {-1, 2, 4, MIN, MAX}) {
            CHECK.refused("read(" + i + ", 0)", x, before, x.read(i, 0), PulseSigns.UNKNOWN);
        }
    }

    private static void fold() {
        PulseSigns x = with(7, 9, 60);
        due("fold(1000000)", x.fold(1000000), 3);
        due("by 7", x.read(0, 0), 1);
        due("by 9", x.read(1, 0), 1);
        due("by 60", x.read(2, 1), 40);
        due("fold(0)", x.fold(0), 3);
        due("0 by 60", x.read(2, 5), 0);
        long before = x.digest();
        for (int r : new int[] {-1, 1000001, MIN, MAX}) {
            CHECK.refused("fold(" + r + ")", x, before, x.fold(r), PulseSigns.OUTSIDE);
        }
    }

    private static void unfold() {
        PulseSigns x = with(7, 11);
        due("nothing read", x.unfold(5, 1, 5000), 0);
        x.fold(40);
        due("both, once in 77", x.unfold(0, 2, 77), 1);
        due("span ends behind 39", x.unfold(0, 2, 40), 0);
        due("span ends behind 40", x.unfold(0, 2, 41), 1);
        due("either of them", x.unfold(0, 1, 77), 11 + 7 - 1);
        due("a span of one", x.unfold(5, 1, 1), 1);
        due("more than there are", x.unfold(5, 3, 5000), 0);
        due("more than there are", x.unfold(5, 4, 5000), 0);
        due("one away", x.unfold(1, 2, 77), 9);
        x.read(0, PulseSigns.NONE);
        due("one missed", x.unfold(0, 2, 77), 0);
        due("the other one", x.unfold(0, 1, 77), 7);
        PulseSigns four = with(3, 5, 7, 11);
        four.fold(100);
        due("four of four", four.unfold(0, 4, 5000), 5);
        due("three of four", four.unfold(0, 3, 1155), 1 + 10 + 6 + 4 + 2);
        for (int e : new int[] {-1, 6, MIN, MAX}) {
            due("unfold(" + e + ", 1, 1)", x.unfold(e, 1, 1), PulseSigns.OUTSIDE);
            due("unfolded(" + e + ", 1, 1, 0)", x.unfolded(e, 1, 1, 0), PulseSigns.OUTSIDE);
        }
        for (int m : new int[] {0, 5, MIN, MAX}) {
            due("unfold(0, " + m + ", 1)", x.unfold(0, m, 1), PulseSigns.OUTSIDE);
            due("unfolded(0, " + m + ", 1, 0)", x.unfolded(0, m, 1, 0), PulseSigns.OUTSIDE);
        }
        for (int span : new int[] {0, 5001, -1, MIN, MAX}) {
            due("unfold(0, 1, " + span + ")", x.unfold(0, 1, span), PulseSigns.OUTSIDE);
            due("unfolded(0, 1, " + span + ", -1)", x.unfolded(0, 1, span, -1), PulseSigns.OUTSIDE);
        }
    }

    private static void unfoldRound() {
        PulseSigns x = with(10);
        x.read(0, 0);
        due("0 and one each way", x.unfold(1, 1, 10), 3);
        due("9 is one away from 0", x.unfolded(1, 1, 10, 2), 9);
        x.read(0, 9);
        due("9 and two each way", x.unfold(2, 1, 10), 5);
        due("1 is two away from 9", x.unfolded(2, 1, 10, 1), 1);
        due("7 is two away from 9", x.unfolded(2, 1, 10, 2), 7);
        due("five away is all", x.unfold(5, 1, 10), 10);
        due("four away is not", x.unfold(4, 1, 10), 9);
    }

    private static void unfolded() {
        PulseSigns x = with(7, 11);
        x.fold(40);
        due("the first", x.unfolded(0, 2, 5000, 0), 40);
        due("the second", x.unfolded(0, 2, 5000, 1), 117);
        due("the last", x.unfolded(0, 2, 5000, 64), 4968);
        due("behind the last", x.unfolded(0, 2, 5000, 65), PulseSigns.NONE);
        due("the last of a short span", x.unfolded(0, 2, 118, 1), 117);
        due("behind a short span", x.unfolded(0, 2, 117, 1), PulseSigns.NONE);
        for (int j : new int[] {-1, -2, 5000, MIN, MAX}) {
            due("unfolded(0, 2, 5000, " + j + ")", x.unfolded(0, 2, 5000, j), PulseSigns.NONE);
        }
    }

    private static void common() {
        due("common of 2", new PulseSigns().common(), 2);
        due("common of 3", with(3).common(), 3);
        due("common of 3, 5, 9, 7", with(3, 5, 9, 7).common(), 315);
        due("common of 4, 6", with(4, 6).common(), 12);
        due("common of 60, 30, 20", with(60, 30, 20).common(), 60);
        due("common of 59, 57, 58, 55", with(59, 57, 58, 55).common(), 59 * 57 * 58 * 55);
        due("common of 60, 59, 58, 57", with(60, 59, 58, 57).common(), 1950540);
        due("common of 8, 12, 18", with(8, 12, 18).common(), 72);
    }

    private static void blind() {
        PulseSigns x = with(4, 6);
        due("blind(0, 12)", x.blind(0, 12), 4);
        due("blind(1, 12)", x.blind(1, 12), 6);
        due("blind(NONE, 12)", x.blind(PulseSigns.NONE, 12), 2);
        due("blind(NONE, 1)", x.blind(PulseSigns.NONE, 1), 1);
        due("blind(1, 3600)", x.blind(1, 3600), 6);
        due("blind(0, 7)", x.blind(0, 7), 1);
        due("blind for four", with(60, 30, 15, 45).blind(PulseSigns.NONE, 3600), 15);
        due("blind for the last", with(60, 30, 15, 45).blind(3, 3600), 45);
        x.rests(1);
        x.rest(0, 6);
        due("a rest that is gone", x.blind(PulseSigns.NONE, 9), 3);
        x = with(4, 6);
        for (int i : new int[] {-2, 2, 4, MIN, MAX}) {
            due("blind(" + i + ", 0)", x.blind(i, 0), PulseSigns.UNKNOWN);
            due("blind(" + i + ", 5)", x.blind(i, 5), PulseSigns.UNKNOWN);
        }
        for (int round : new int[] {0, 3601, -1, MIN, MAX}) {
            due("blind(0, " + round + ")", x.blind(0, round), PulseSigns.OUTSIDE);
            due("blind(NONE, " + round + ")", x.blind(PulseSigns.NONE, round), PulseSigns.OUTSIDE);
        }
    }
}
