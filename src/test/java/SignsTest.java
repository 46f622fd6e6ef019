/** Promises 1 to 11. */
public final class SignsTest {
    private static final Check CHECK = new Check();
    private static final int MIN = Integer.MIN_VALUE;
    private static final int MAX = Integer.MAX_VALUE;

    public static void main(String[] args) {
        newObject();
        sizes();
        turns();
        turned();
        made();
        look();
        lookOfSpeeds();
        peakAndFlank();
        worst();
        best();
        bestIsFull();
        pair();
        unknownSigns();
        CHECK.end();
    }

    private static void due(String call, long got, long want) {
        CHECK.due(call, got, want);
    }

    private static PulseSigns with(int c, int... turns) {
        PulseSigns x = new PulseSigns();
        set(x, c, turns);
        return x;
    }

    private static void set(PulseSigns x, int c, int... turns) {
        x.size(c, turns.length);
        for (int i = 0; i < turns.length; i++) {
            x.turn(c, i, turns[i]);
        }
    }

    private static void dueTurns(String what, PulseSigns x, int c, int... turns) {
        for (int i = 0; i < turns.length; i++) {
            due(what + ": turned(" + c + ", " + i + ")", x.turned(c, i), turns[i]);
        }
        due(what + ": turned(" + c + ", " + turns.length + ")", x.turned(c, turns.length), PulseSigns.NONE);
    }

    private static void newObject() {
        PulseSigns x = new PulseSigns();
        for (int c = 0; c <= 5; c++) {
            dueTurns("new", x, c, 0);
        }
        due("new told(0)", x.told(0), 1);
        due("new told(1)", x.told(1), 1);
        due("new told(2)", x.told(2), 0);
        due("new told(3)", x.told(3), 0);
        due("new weight(0, 0)", x.weight(0, 0), 1);
        due("new read(0, 0)", x.read(0, 0), PulseSigns.NONE);
        due("new rest(0, 5)", x.rest(0, 5), 2);
        PulseSigns y = new PulseSigns();
        y.size(0, 3);
        dueTurns("two objects", new PulseSigns(), 0, 0);
    }

    private static void sizes() {
        PulseSigns x = with(2, 1, 2, 3);
        due("size(2, 5)", x.size(2, 5), 5);
        dueTurns("size", x, 2, 0, 0, 0, 0, 0);
        x.turn(2, 4, 3);
        due("size(2, 1)", x.size(2, 1), 1);
        dueTurns("shorter", x, 2, 0);
        due("size(2, 16)", x.size(2, 16), 16);
        dueTurns("longer", x, 2, 0, 0, 0, 0, 0, 0, 0, 0, 0, 0, 0, 0, 0, 0, 0, 0);
        dueTurns("another", x, 1, 0);
        x.turn(2, 3, 1);
        long before = x.digest();
        for (int n : new int[] {0, 17, -1, MIN, MAX}) {
            CHECK.refused("size(2, " + n + ")", x, before, x.size(2, n), PulseSigns.OUTSIDE);
            CHECK.refused("size(6, " + n + ")", x, before, x.size(6, n), PulseSigns.UNKNOWN);
        }
        CHECK.refused("size(-1, 3)", x, before, x.size(-1, 3), PulseSigns.UNKNOWN);
    }

    private static void turns() {
        PulseSigns x = with(5, 0, 0, 0);
        due("turn(5, 2, 3)", x.turn(5, 2, 3), 0);
        due("turn(5, 2, 1)", x.turn(5, 2, 1), 3);
        due("turn(5, 0, 2)", x.turn(5, 0, 2), 0);
        due("turn(5, 0, 0)", x.turn(5, 0, 0), 2);
        dueTurns("turn", x, 5, 0, 0, 1);
        long before = x.digest();
        for (int q : new int[] {-1, 4, MIN, MAX}) {
            CHECK.refused("turn(5, 0, " + q + ")", x, before, x.turn(5, 0, q), PulseSigns.OUTSIDE);
            CHECK.refused("turn(5, 3, " + q + ")", x, before, x.turn(5, 3, q), PulseSigns.UNKNOWN);
            CHECK.refused("turn(6, 0, " + q + ")", x, before, x.turn(6, 0, q), PulseSigns.UNKNOWN);
        }
        for (int i : new int[] {-1, 3, 15, 16, MIN, MAX}) {
            CHECK.refused("turn(5, " + i + ", 1)", x, before, x.turn(5, i, 1), PulseSigns.UNKNOWN);
        }
    }

    private static void turned() {
        PulseSigns x = with(3, 3, 2, 1);
        dueTurns("turned", x, 3, 3, 2, 1);
        for (int i : new int[] {-1, 3, 16, MIN, MAX}) {
            due("turned(3, " + i + ")", x.turned(3, i), PulseSigns.NONE);
            due("turned(6, " + i + ")", x.turned(6, i), PulseSigns.UNKNOWN);
        }
        due("turned(-1, 0)", x.turned(-1, 0), PulseSigns.UNKNOWN);
    }

    private static void made() {
        PulseSigns x = with(0, 0, 1, 2, 3, 1);
        due("made(1, 0, 0)", x.made(1, 0, 0), 5);
        dueTurns("back to front", x, 1, 1, 3, 2, 1, 0);
        due("made(2, 0, 1)", x.made(2, 0, 1), 5);
        dueTurns("the other way", x, 2, 0, 3, 2, 1, 3);
        due("made(3, 0, 2)", x.made(3, 0, 2), 5);
        dueTurns("one more", x, 3, 1, 2, 3, 0, 2);
        dueTurns("the source", x, 0, 0, 1, 2, 3, 1);
        due("made(0, 0, 0)", x.made(0, 0, 0), 5);
        dueTurns("itself back to front", x, 0, 1, 3, 2, 1, 0);
        due("made(0, 0, 1)", x.made(0, 0, 1), 5);
        dueTurns("itself the other way", x, 0, 3, 1, 2, 3, 0);
        due("made(0, 0, 2)", x.made(0, 0, 2), 5);
        dueTurns("itself one more", x, 0, 0, 2, 3, 0, 1);
        due("made(0, 4, 2)", x.made(0, 4, 2), 1);
        dueTurns("a shorter one", x, 0, 1);
        set(x, 4, 1, 2);
        due("made(4, 4, 0)", x.made(4, 4, 0), 2);
        dueTurns("an even one", x, 4, 2, 1);
        set(x, 4, 3, 0, 0, 0, 0, 0, 0, 0, 0, 0, 0, 0, 0, 0, 0, 1);
        due("sixteen back to front", x.made(0, 4, 0), 16);
        dueTurns("sixteen back to front", x, 0, 1, 0, 0, 0, 0, 0, 0, 0, 0, 0, 0, 0, 0, 0, 0, 3);
        due("sixteen the other way", x.made(1, 4, 1), 16);
        dueTurns("sixteen the other way", x, 1, 1, 0, 0, 0, 0, 0, 0, 0, 0, 0, 0, 0, 0, 0, 0, 3);
        due("sixteen one more", x.made(2, 4, 2), 16);
        dueTurns("sixteen one more", x, 2, 0, 1, 1, 1, 1, 1, 1, 1, 1, 1, 1, 1, 1, 1, 1, 2);
        long before = x.digest();
        for (int side : new int[] {-1, 3, MIN, MAX}) {
            CHECK.refused("made(1, 0, " + side + ")", x, before, x.made(1, 0, side), PulseSigns.OUTSIDE);
            CHECK.refused("made(6, 0, " + side + ")", x, before, x.made(6, 0, side), PulseSigns.UNKNOWN);
            CHECK.refused("made(0, -1, " + side + ")", x, before, x.made(0, -1, side), PulseSigns.UNKNOWN);
        }
        CHECK.refused("made(-1, 0, 0)", x, before, x.made(-1, 0, 0), PulseSigns.UNKNOWN);
        CHECK.refused("made(0, 6, 0)", x, before, x.made(0, 6, 0), PulseSigns.UNKNOWN);
    }

    private static void look() {
        PulseSigns x = with(0, 0, 1, 2);
        set(x, 1, 1, 0);
        // 1, i, -1 beside i, 1 turned the other way: -i, 1
        due("look(0, 1, 0, 0, 0)", x.look(0, 1, 0, 0, 0), 0);
        due("look(0, 1, 0, 0, 1)", x.look(0, 1, 0, 0, 1), 0);
        due("look(0, 1, 1, 0, 0)", x.look(0, 1, 1, 0, 0), 1);
        due("look(0, 1, 1, 0, 1)", x.look(0, 1, 1, 0, 1), 0);
        due("look(0, 1, -1, 0, 0)", x.look(0, 1, -1, 0, 0), 0);
        due("look(0, 1, -2, 0, 1)", x.look(0, 1, -2, 0, 1), 1);
        due("look(0, 1, -2, 0, 0)", x.look(0, 1, -2, 0, 0), 0);
        due("look(1, 0, 2, 0, 1)", x.look(1, 0, 2, 0, 1), -1);
        due("look(0, 1, 2, 0, 0)", x.look(0, 1, 2, 0, 0), 0);
        due("look(0, 0, 15, 0, 0)", x.look(0, 0, 15, 0, 0), 0);
        due("look(0, 0, -15, 3, 1)", x.look(0, 0, -15, 3, 1), 0);
        for (int bad : new int[] {-1, 6, MIN, MAX}) {
            due("look(" + bad + ", 0, ..)", x.look(bad, 0, 0, 0, 0), -1000);
            due("look(0, " + bad + ", ..)", x.look(0, bad, 99, 99, 99), -1000);
        }
        for (int k : new int[] {-16, 16, MIN, MAX}) {
            due("look(0, 0, " + k + ", 0, 0)", x.look(0, 0, k, 0, 0), -1001);
        }
        for (int d : new int[] {-1, 4, MIN, MAX}) {
            due("look(0, 0, 0, " + d + ", 0)", x.look(0, 0, 0, d, 0), -1001);
        }
        for (int part : new int[] {-1, 2, MIN, MAX}) {
            due("look(0, 0, 0, 0, " + part + ")", x.look(0, 0, 0, 0, part), -1001);
        }
    }

    private static void lookOfSpeeds() {
        PulseSigns x = with(0, 0, 0, 0);
        // 1 + i + -1, 1 + -1 + 1, 1 - i - 1
        int[][] want = {{3, 0}, {0, 1}, {1, 0}, {0, -1}};
        // LATE 1: n is 0 and 1; LATE -1: n is 1 and 2
        int[][] late = {{2, 0}, {1, 1}, {0, 0}, {1, -1}};
        int[][] early = {{2, 0}, {-1, 1}, {0, 0}, {-1, -1}};
        for (int d = 0; d < 4; d++) {
            for (int part = 0; part < 2; part++) {
                due("look at speed " + d, x.look(0, 0, 0, d, part), want[d][part]);
                due("late look at speed " + d, x.look(0, 0, 1, d, part), late[d][part]);
                due("early look at speed " + d, x.look(0, 0, -1, d, part), early[d][part]);
            }
        }
    }

    private static void peakAndFlank() {
        PulseSigns x = new PulseSigns();
        due("peak of one", x.peak(0), 0);
        due("flank of one", x.flank(0), 0);
        x.size(0, 4);
        due("peak of 0 0 0 0", x.peak(0), 9);
        due("flank of 0 0 0 0", x.flank(0), 14);
        set(x, 1, 0, 0, 1);
        // LATE 1: 1 - i, LATE 2: -i
        due("peak of 0 0 1", x.peak(1), 2);
        due("flank of 0 0 1", x.flank(1), 3);
        set(x, 5, 0, 2, 0, 0);
        due("peak of 0 2 0 0", x.peak(5), 1);
        due("flank of 0 2 0 0", x.flank(5), 2);
        x.size(2, 16);
        due("peak of sixteen", x.peak(2), 225);
        due("flank of sixteen", x.flank(2), 1240);
    }

    private static void worst() {
        PulseSigns x = new PulseSigns();
        due("worst of one", x.worst(0), 1);
        x.size(0, 4);
        due("worst of 0 0 0 0", x.worst(0), 9);
        set(x, 0, 0, 2, 0, 2);
        due("worst of 0 2 0 2", x.worst(0), 9);
        set(x, 0, 0, 0, 0, 2, 2, 0, 2);
        due("worst of Barker's seven", x.worst(0), 9);
        set(x, 0, 0, 0);
        due("worst of 0 0", x.worst(0), 2);
        // each number is turned further against the next, so that only a LATE with a SPEED gathers them
        set(x, 0, 0, 0, 3, 1, 2, 2, 1, 3, 0, 0, 3, 1, 2, 2, 1, 3);
        due("worst of sixteen", x.worst(0), 225);
        due("its peak", x.peak(0), 144);
    }

    private static void best() {
        PulseSigns x = new PulseSigns();
        String[] want = {"0", "00", "002", "0002", "00020", "000020", "0002202", "00002202", "000202002",
            "0000022020", "00022202202", "000002200202"};
        int[] peaks = {0, 1, 1, 1, 1, 4, 1, 4, 4, 4, 1, 4};
        int[] flanks = {0, 1, 1, 2, 2, 7, 3, 8, 12, 13, 5, 10};
        for (int n = 1; n <= 12; n++) {
            int c = n % 6;
            set(x, c, 3, 3, 3, 3, 3, 3, 3, 3, 3, 3, 3, 3, 3, 3);
            due("best(" + c + ", " + n + ")", x.best(c, n), peaks[n - 1]);
            dueTurns("best of " + n, x, c, want[n - 1].chars().map(sign -> sign - '0').toArray());
            due("flank of the best of " + n, x.flank(c), flanks[n - 1]);
            due("told(3)", x.told(3), n);
        }
        long before = x.digest();
        for (int n : new int[] {0, 13, -1, MIN, MAX}) {
            CHECK.refused("best(0, " + n + ")", x, before, x.best(0, n), PulseSigns.OUTSIDE);
            CHECK.refused("best(-1, " + n + ")", x, before, x.best(-1, n), PulseSigns.UNKNOWN);
        }
        CHECK.refused("best(6, 2)", x, before, x.best(6, 2), PulseSigns.UNKNOWN);
    }

    private static void bestIsFull() {
        PulseSigns x = new PulseSigns();
        for (int i = 0; i < 30; i++) {
            x.best(6, 3);
            x.best(0, 13);
            due("best, time " + i, x.best(i % 6, 3), 1);
        }
        long before = x.digest();
        CHECK.refused("best, time 30", x, before, x.best(0, 4), PulseSigns.FULL);
        CHECK.refused("best(6, 4) when full", x, before, x.best(6, 4), PulseSigns.UNKNOWN);
        CHECK.refused("best(0, 13) when full", x, before, x.best(0, 13), PulseSigns.OUTSIDE);
        due("told(3)", x.told(3), 30);
    }

    private static void pair() {
        PulseSigns x = new PulseSigns();
        due("pair of ones", x.pair(0, 5), 1);
        due("pair(0, 0)", x.pair(0, 0), 1);
        set(x, 0, 0, 0, 0, 2);
        set(x, 1, 0, 0, 2, 0);
        due("a pair of four", x.pair(0, 1), 1);
        due("a pair of four, swapped", x.pair(1, 0), 1);
        due("no pair with itself", x.pair(0, 0), 0);
        due("no pair of unlike lengths", x.pair(0, 2), 0);
        set(x, 2, 0, 0, 2);
        set(x, 3, 0, 1, 0);
        // the same sides but for the LOOK's PARTS: 0, -1 and 0, 1
        due("a pair of three", x.pair(2, 3), 1);
        // LATE 1: 1 and i, whose SIZES are like but which do not go out; and -i and i, which do
        set(x, 4, 0, 0);
        set(x, 5, 0, 3);
        due("no pair, part 1 stays", x.pair(4, 5), 0);
        set(x, 4, 0, 1);
        due("a pair that goes out in part 1", x.pair(4, 5), 1);
        set(x, 4, 0, 3);
        due("no pair of like ones", x.pair(4, 5), 0);
        for (int bad : new int[] {-1, 6, MIN, MAX}) {
            due("pair(" + bad + ", 0)", x.pair(bad, 0), PulseSigns.UNKNOWN);
            due("pair(0, " + bad + ")", x.pair(0, bad), PulseSigns.UNKNOWN);
        }
    }

    private static void unknownSigns() {
        PulseSigns x = new PulseSigns();
        for (int bad : new int[] {-1, 6, MIN, MAX}) {
            due("peak(" + bad + ")", x.peak(bad), PulseSigns.UNKNOWN);
            due("flank(" + bad + ")", x.flank(bad), PulseSigns.UNKNOWN);
            due("worst(" + bad + ")", x.worst(bad), PulseSigns.UNKNOWN);
        }
    }
}
