/** The boundary cases of promises 12 to 17. */
public final class FilterEdgesTest {
    private static final Edges EDGES = new Edges(12, 17);
    private static final int MIN = Case.MIN;
    private static final int MAX = Case.MAX;
    private static final int IT = Case.IT;
    private static final int UNKNOWN = Case.UNKNOWN;
    private static final int OUTSIDE = Case.OUTSIDE;
    private static final int[] NO_SIGNS = {-1, 6, 7, MIN, MAX};

    public static void main(String[] args) {
        filter();
        weightNames();
        weight();
        own();
        answerRefused();
        answer();
        greatest();
        clear();
        clearTenths();
        EDGES.end();
    }

    /** THE FILTER's numbers, which are read by being put to 0. */
    private static void dueWeights(Case x, int... numbers) {
        x.due(numbers.length, "told", 0);
        for (int j = 0; j < numbers.length; j++) {
            x.due(numbers[j], "weight", j, 0);
        }
        x.refused(-1000, "weight", numbers.length, 0);
    }

    private static void filter() {
        EDGES.test(12, "OUTSIDE: n is 1 at least", x -> {
            x.filled();
            x.due(1, "filter", 1);
            x.ready("weight", 0, 7);
            x.eachRefused(OUTSIDE, new int[] {0, -1, MIN}, "filter", IT);
        });
        EDGES.test(12, "OUTSIDE: n is 24 at most", x -> {
            x.filled();
            x.due(24, "filter", 24);
            x.ready("weight", 23, 7);
            x.eachRefused(OUTSIDE, new int[] {25, 26, MAX}, "filter", IT);
        });
        EDGES.test(12, "one number is 0, not 1 as at first", x -> {
            x.due(1, "filter", 1);
            dueWeights(x, 0);
        });
        EDGES.test(12, "twenty-four numbers are 0", x -> {
            x.due(24, "filter", 24);
            dueWeights(x, new int[24]);
        });
        EDGES.test(12, "the same length is made of 0 again", x -> {
            x.weights(1, 2, 3);
            x.due(3, "filter", 3);
            dueWeights(x, 0, 0, 0);
        });
        EDGES.test(12, "what was behind a shorter one does not come back", x -> {
            x.weights(1, 2, 3);
            x.due(1, "filter", 1);
            x.due(3, "filter", 3);
            dueWeights(x, 0, 0, 0);
        });
    }

    private static void weightNames() {
        EDGES.test(13, "-1000: j is 0 at least", x -> {
            x.filled();
            x.due(3, "weight", 0, 5);
            x.eachRefused(-1000, new int[] {-1, -2, MIN}, "weight", IT, 5);
        });
        EDGES.test(13, "-1000: j is below the length", x -> {
            x.filled();
            x.due(-50, "weight", 3, 5);
            x.eachRefused(-1000, new int[] {4, 5, 23, 24, MAX}, "weight", IT, 5);
        });
        EDGES.test(13, "-1000: j of one number is 0 alone", x -> {
            x.due(1, "weight", 0, 2);
            x.refused(-1000, "weight", 1, 2);
        });
        EDGES.test(13, "-1000: j of twenty-four numbers is 23 at most", x -> {
            x.ready("filter", 24);
            x.due(0, "weight", 23, 2);
            x.refused(-1000, "weight", 24, 2);
        });
        EDGES.test(13, "-1000: j that was cut off", x -> {
            x.weights(1, 2, 3);
            x.ready("filter", 2);
            x.due(0, "weight", 1, 2);
            x.refused(-1000, "weight", 2, 2);
        });
        EDGES.test(13, "-1000 ahead of -1001", x -> {
            x.filled();
            x.refused(-1000, "weight", 4, 51);
            x.refused(-1000, "weight", -1, -51);
        });
    }

    private static void weight() {
        EDGES.test(13, "-1001: v is -50 at least", x -> {
            x.filled();
            x.due(-4, "weight", 1, -50);
            x.eachRefused(-1001, new int[] {-51, -52, MIN}, "weight", 1, IT);
            x.due(-50, "weight", 1, 0);
        });
        EDGES.test(13, "-1001: v is 50 at most", x -> {
            x.filled();
            x.due(-4, "weight", 1, 50);
            x.eachRefused(-1001, new int[] {51, 52, MAX}, "weight", 1, IT);
            x.due(50, "weight", 1, 0);
        });
        EDGES.test(13, "a number of -1 is no NONE", x -> {
            x.due(1, "weight", 0, -1);
            x.due(-1, "weight", 0, -1);
            x.due(-1, "weight", 0, 0);
        });
    }

    private static void own() {
        EDGES.test(14, "UNKNOWN: c is 0 to 5", x -> {
            x.filled();
            x.due(1, "own", 0);
            x.due(16, "own", 5);
            x.eachRefused(UNKNOWN, NO_SIGNS, "own", IT);
        });
        EDGES.test(14, "of one TURN, each of the four", x -> {
            int[] without = {1, 0, -1, 0};
            for (int q = 0; q <= 3; q++) {
                x.ready("turn", 2, 0, q);
                x.due(1, "own", 2);
                dueWeights(x, without[q]);
            }
        });
        EDGES.test(14, "the last comes first, the first last", x -> {
            x.sign(2, 0, 1, 3, 2);
            x.due(4, "own", 2);
            dueWeights(x, -1, 0, 0, 1);
        });
        EDGES.test(14, "of sixteen TURNS", x -> {
            x.sign(2, 2, 1, 0, 3, 0, 0, 2, 2, 1, 1, 3, 3, 0, 2, 0, 0);
            x.due(16, "own", 2);
            dueWeights(x, 1, 1, -1, 1, 0, 0, 0, 0, -1, -1, 1, 1, 0, 1, 0, -1);
        });
        EDGES.test(14, "a longer FILTER becomes as short as the SIGN", x -> {
            x.ready("filter", 24);
            x.ready("weight", 23, 9);
            x.sign(2, 2, 2);
            x.due(2, "own", 2);
            dueWeights(x, -1, -1);
        });
        EDGES.test(14, "the SIGN may change without THE FILTER", x -> {
            x.ready("size", 2, 2);
            x.due(2, "own", 2);
            x.ready("size", 2, 5);
            x.ready("turn", 2, 0, 2);
            dueWeights(x, 1, 1);
        });
    }

    private static void answerRefused() {
        EDGES.test(15, "-100000: c is 0 to 5", x -> {
            x.due(1, "answer", 0, 0, 0);
            x.due(1, "answer", 5, 0, 0);
            x.eachRefused(-100000, NO_SIGNS, "answer", IT, 0, 0);
        });
        EDGES.test(15, "-100001: k is below 0", x -> {
            x.due(1, "answer", 0, 0, 0);
            x.eachRefused(-100001, new int[] {-1, -2, MIN}, "answer", 0, IT, 0);
        });
        EDGES.test(15, "-100001: part is 0 or 1", x -> {
            x.sign(1, 3);
            x.due(0, "answer", 1, 0, 0);
            x.due(-1, "answer", 1, 0, 1);
            x.eachRefused(-100001, new int[] {-1, -2, 2, 3, MIN, MAX}, "answer", 1, 0, IT);
            x.eachRefused(-100001, new int[] {-1, 2}, "answer", 1, 1000, IT);
        });
        EDGES.test(15, "-100000 ahead of -100001", x -> {
            x.refused(-100000, "answer", 6, -1, 0);
            x.refused(-100000, "answer", -1, 0, 2);
        });
    }

    private static void answer() {
        EDGES.test(15, "0 beyond: one number, one TURN", x -> {
            x.due(1, "answer", 0, 0, 0);
            x.due(0, "answer", 0, 1, 0);
        });
        EDGES.test(15, "0 beyond: the last k has the last number and the last TURN", x -> {
            x.weights(5, 6, 7);
            x.sign(1, 0, 1);
            x.due(5, "answer", 1, 0, 0);
            x.due(0, "answer", 1, 0, 1);
            x.due(0, "answer", 1, 3, 0);
            x.due(7, "answer", 1, 3, 1);
            x.due(0, "answer", 1, 4, 0);
            x.due(0, "answer", 1, 4, 1);
        });
        EDGES.test(15, "0 beyond: twenty-four numbers, sixteen TURNS", x -> {
            x.ready("filter", 24);
            x.ready("weight", 23, 9);
            x.ready("size", 1, 16);
            x.due(0, "answer", 1, 22, 0);
            x.due(9, "answer", 1, 23, 0);
            x.due(9, "answer", 1, 38, 0);
            x.due(0, "answer", 1, 39, 0);
        });
        EDGES.test(15, "0 beyond: as far as k goes", x -> {
            x.filled();
            for (int k : new int[] {1000, MAX - 23, MAX - 1, MAX}) {
                x.due(0, "answer", 5, k, 0);
                x.due(0, "answer", 5, k, 1);
            }
        });
        EDGES.test(15, "what was cut off does not count", x -> {
            x.weights(5, 6, 7);
            x.weights(5);
            x.ready("size", 1, 3);
            x.ready("size", 1, 1);
            x.due(5, "answer", 1, 0, 0);
            x.due(0, "answer", 1, 1, 0);
            x.due(0, "answer", 1, 2, 0);
        });
        EDGES.test(15, "each of the four TURNS", x -> {
            x.weights(10);
            x.sign(1, 0, 1, 2, 3);
            int[] without = {10, 0, -10, 0};
            for (int k = 0; k < 4; k++) {
                x.due(without[k], "answer", 1, k, 0);
                x.due(without[(k + 3) % 4], "answer", 1, k, 1);
            }
        });
        EDGES.test(15, "the greatest and the least PARTS there are", x -> {
            x.ready("filter", 16);
            for (int j = 0; j < 16; j++) {
                x.ready("weight", j, 50);
            }
            x.ready("size", 0, 16);
            x.due(800, "answer", 0, 15, 0);
            for (int turns = 1; turns <= 3; turns++) {
                x.ready("made", turns, turns - 1, 2);
            }
            x.due(800, "answer", 1, 15, 1);
            x.due(-800, "answer", 2, 15, 0);
            x.due(-800, "answer", 3, 15, 1);
        });
    }

    private static void greatest() {
        EDGES.test(16, "UNKNOWN: c is 0 to 5", x -> {
            x.weights(1, 2);
            x.due(1, "greatest", 0);
            x.due(1, "greatest", 5);
            x.eachRefused(UNKNOWN, NO_SIGNS, "greatest", IT);
        });
        EDGES.test(16, "of like ones the least: two", x -> {
            x.weights(0, 3, 0, -3);
            x.due(1, "greatest", 0);
        });
        EDGES.test(16, "of like ones the least: one with i and one without", x -> {
            x.sign(1, 1, 0, 3);
            x.weights(0, 0, 4);
            x.due(2, "greatest", 1);
        });
        EDGES.test(16, "of like ones the least: all ANSWERS are 0", x -> {
            x.filled();
            x.ready("filter", 24);
            x.due(0, "greatest", 5);
        });
        EDGES.test(16, "of like ones the least: a later one that is greater by little", x -> {
            x.weights(49, -49, 50);
            x.due(2, "greatest", 0);
            x.weights(50, -50, 49);
            x.due(0, "greatest", 0);
        });
        EDGES.test(16, "the first k", x -> {
            x.weights(2, 1);
            x.due(0, "greatest", 0);
        });
        EDGES.test(16, "the last k of twenty-four numbers and sixteen TURNS", x -> {
            // 22: the one of them, 23 to 37: both together, 38: the other
            x.ready("size", 1, 16);
            x.ready("filter", 24);
            x.ready("weight", 22, -50);
            x.ready("weight", 23, 50);
            x.due(22, "greatest", 1);
            x.ready("weight", 22, -49);
            x.due(38, "greatest", 1);
        });
        EDGES.test(16, "SIZE is of both PARTS", x -> {
            // 5, then 5 and 5 i, then 5 i
            x.sign(1, 0, 1);
            x.weights(5, 5);
            x.due(1, "greatest", 1);
        });
    }

    private static void clear() {
        EDGES.test(17, "UNKNOWN: c is 0 to 5", x -> {
            x.weights(1, 2);
            x.due(40, "clear", 0);
            x.due(40, "clear", 5);
            x.eachRefused(UNKNOWN, NO_SIGNS, "clear", IT);
        });
        EDGES.test(17, "0: all ANSWERS are 0", x -> {
            x.filled();
            x.ready("filter", 24);
            x.due(0, "clear", 5);
            x.ready("weight", 4, 1);
            x.due(10, "clear", 5);
        });
        EDGES.test(17, "0: one number that is 0, one TURN", x -> {
            x.ready("filter", 1);
            x.due(0, "clear", 0);
        });
        EDGES.test(17, "1000000: one number, one TURN", x -> {
            x.due(1000000, "clear", 0);
            x.ready("weight", 0, -50);
            x.due(1000000, "clear", 0);
        });
        EDGES.test(17, "1000000: the others are 0", x -> {
            x.weights(0, 0, 7, 0);
            x.due(1000000, "clear", 0);
            x.ready("weight", 3, 1);
            x.due(490, "clear", 0);
        });
        EDGES.test(17, "10: another is as great", x -> {
            x.weights(7, 0, -7);
            x.due(10, "clear", 0);
        });
        EDGES.test(17, "another k ahead of THE GREATEST, and behind it", x -> {
            x.weights(3, 6, 1);
            x.due(40, "clear", 0);
            x.weights(1, 6, 3);
            x.due(40, "clear", 0);
        });
        EDGES.test(17, "another k is the first, and the last", x -> {
            x.weights(3, 0, 6);
            x.due(40, "clear", 0);
            x.weights(6, 0, 3);
            x.due(40, "clear", 0);
        });
    }

    private static void clearTenths() {
        EDGES.test(17, "rounded down in tenths: 9 by 4 is 2 and 2 tenths and a half", x -> {
            x.weights(3, 2);
            x.due(22, "clear", 0);
        });
        EDGES.test(17, "rounded down in tenths: 100 by 9 is 11 and 1 tenth and more", x -> {
            x.weights(10, 3);
            x.due(111, "clear", 0);
        });
        EDGES.test(17, "rounded down in tenths: 49 by 25 is nearly 2", x -> {
            x.weights(7, 5);
            x.due(19, "clear", 0);
            x.weights(10, 5);
            x.due(40, "clear", 0);
        });
        EDGES.test(17, "rounded down in tenths: 2500 by 2401 is a little above 1", x -> {
            x.weights(50, 49);
            x.due(10, "clear", 0);
        });
        EDGES.test(17, "2500 by 1", x -> {
            x.weights(50, 1);
            x.due(25000, "clear", 0);
        });
        EDGES.test(17, "the greatest SIZES there are: 640000 by 562500", x -> {
            x.ready("size", 1, 16);
            x.ready("filter", 16);
            for (int j = 0; j < 16; j++) {
                x.ready("weight", j, 50);
            }
            x.due(11, "clear", 1);
        });
        EDGES.test(17, "SIZE is of both PARTS", x -> {
            // 5, then 5 and 5 i, then 5 i
            x.sign(1, 0, 1);
            x.weights(5, 5);
            x.due(20, "clear", 1);
        });
    }
}
