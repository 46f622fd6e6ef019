import java.util.ArrayList;
import java.util.Arrays;
import java.util.List;

/**
 * All promises: every call with every choice of arguments at, beside and far beyond the document's bounds, on an object
 * that is new, one that is half filled and one that is full, beside Model.
 */
public final class SweepTest {
    // the bounds of each argument; where they hang on the state, those of the filled and of the full object
    private static final String[] CALLS = {"size 0..5 1..16", "turn 0..5 0..15 0..3", "turn 0..5 0..3 0..3", "turned 0..5 0..15",
        "turned 0..5 0..3", "made 0..5 0..5 0..2", "look 0..5 0..5 -15..15 0..3 0..1", "peak 0..5", "flank 0..5",
        "worst 0..5", "best 0..5 1..12", "pair 0..5 0..5", "filter 1..24", "weight 0..23 -50..50", "weight 0..3 -50..50",
        "own 0..5", "answer 0..5 0..38 0..1", "answer 0..5 0..6 0..1", "greatest 0..5", "clear 0..5", "rests 1..4",
        "rest 0..3 2..60", "rest 0..1 2..60", "read 0..3 0..59", "read 0..1 0..6", "fold 0..1000000",
        "unfold 0..5 1..4 1..5000", "unfolded 0..5 1..4 1..5000 0..9", "common", "blind 0..3 1..3600",
        "blind 0..1 1..3600", "put 0..10000", "empty", "found 0..63 1..8 0..3 1..8 1..500",
        "found 0..5 1..8 0..3 1..8 1..500", "count 1..8 0..3 1..8 1..500", "share 1..8 1..8 1..40 0..1",
        "scale 1..8 1..8 1..1000000000", "told 0..3", "digest"};
    private static final int MOST_CALLS = 512;

    private final Check check = new Check();
    private PulseSigns x;
    private Model y;
    private int calls;

    public static void main(String[] args) throws ReflectiveOperationException {
        SweepTest test = new SweepTest();
        for (String call : CALLS) {
            for (int state = 0; state < 3; state++) {
                test.sweep(call.split(" "), state);
            }
        }
        test.check.end();
    }

    private void sweep(String[] call, int state) throws ReflectiveOperationException {
        int[][] values = new int[call.length - 1][];
        for (int i = 0; i < values.length; i++) {
            String[] bounds = call[i + 1].split("[.][.]");
            values[i] = around(Integer.parseInt(bounds[0]), Integer.parseInt(bounds[1]));
        }
        begin(state);
        for (int[] with : choices(values)) {
            if (calls + 2 > MOST_CALLS) {
                begin(state);
            }
            both(call[0], with);
            both("digest");
        }
    }

    private static int[] around(int low, int high) {
        int middle = low + (high - low) / 2;
        return new int[] {Integer.MIN_VALUE, low - 2, low - 1, low, middle, high, high + 1, Integer.MAX_VALUE};
    }

    private static List<int[]> choices(int[][] values) {
        List<int[]> all = new ArrayList<>();
        all.add(new int[0]);
        for (int[] next : values) {
            List<int[]> longer = new ArrayList<>();
            for (int[] choice : all) {
                for (int value : next) {
                    int[] more = Arrays.copyOf(choice, choice.length + 1);
                    more[choice.length] = value;
                    longer.add(more);
                }
            }
            all = longer;
        }
        return all;
    }

    private void begin(int state) throws ReflectiveOperationException {
        x = new PulseSigns();
        y = new Model();
        calls = 0;
        if (state == 1) {
            fill(4, 4, 2, 6, 29);
        }
        if (state == 2) {
            fill(16, 24, 4, 64, 30);
        }
    }

    private void fill(int turns, int weights, int rests, int numbers, int searches) throws ReflectiveOperationException {
        for (int c = 0; c <= 5; c++) {
            both("size", c, turns);
            for (int i = 0; i < turns; i++) {
                both("turn", c, i, (i * i + c * i + c) % 5 % 4);
            }
        }
        both("filter", weights);
        for (int j = 0; j < weights; j++) {
            both("weight", j, j * 37 % 101 - 50);
        }
        both("rests", rests);
        for (int i = 0; i < rests; i++) {
            both("rest", i, 7 + 4 * i);
        }
        both("fold", 40);
        for (int i = 0; i < numbers; i++) {
            both("put", i * 71 % 23);
        }
        for (int i = 0; i < searches; i++) {
            both("best", 1, 2 + i % 4);
        }
    }

    private void both(String name, int... with) throws ReflectiveOperationException {
        calls++;
        check.due(name + Arrays.toString(with), Calls.call(x, name, with), Calls.call(y, name, with));
    }
}
