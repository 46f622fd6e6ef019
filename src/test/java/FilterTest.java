/** Promises 12 to 17. */
public final class FilterTest {
    private static final Check CHECK = new Check();
    private static final int MIN = Integer.MIN_VALUE;
    private static final int MAX = Integer.MAX_VALUE;

    public static void main(String[] args) {
        filter();
        weight();
        own();
        answer();
        greatest();
        clear();
        CHECK.end();
    }

    private static void due(String call, long got, long want) {
        CHECK.due(call, got, want);
    }

    private static void sign(PulseSigns x, int c, int... turns) {
        x.size(c, turns.length);
        for (int i = 0; i < turns.length; i++) {
            x.turn(c, i, turns[i]);
        }
    }

    private static void weights(PulseSigns x, int... numbers) {
        x.filter(numbers.length);
        for (int j = 0; j < numbers.length; j++) {
            x.weight(j, numbers[j]);
        }
    }

    private static void filter() {
        PulseSigns x = new PulseSigns();
        due("filter(24)", x.filter(24), 24);
        due("told(0)", x.told(0), 24);
        for (int j = 0; j < 24; j++) {
            due("weight(" + j + ", 7)", x.weight(j, 7), 0);
        }
        due("filter(1)", x.filter(1), 1);
        due("filter(2)", x.filter(2), 2);
        due("weight(0, 3) behind filter", x.weight(0, 3), 0);
        due("weight(1, 4) behind filter", x.weight(1, 4), 0);
        long before = x.digest();
        for (int n : new int[] {0, 25, -1, MIN, MAX}) {
            CHECK.refused("filter(" + n + ")", x, before, x.filter(n), PulseSigns.OUTSIDE);
        }
    }

    private static void weight() {
        PulseSigns x = new PulseSigns();
        due("the first weight(0, 50)", x.weight(0, 50), 1);
        due("weight(0, -50)", x.weight(0, -50), 50);
        due("weight(0, -1)", x.weight(0, -1), -50);
        due("weight(0, 0)", x.weight(0, 0), -1);
        long before = x.digest();
        for (int j : new int[] {-1, 1, 24, MIN, MAX}) {
            CHECK.refused("weight(" + j + ", 99)", x, before, x.weight(j, 99), -1000);
            CHECK.refused("weight(" + j + ", 2)", x, before, x.weight(j, 2), -1000);
        }
        for (int v : new int[] {-51, 51, MIN, MAX}) {
            CHECK.refused("weight(0, " + v + ")", x, before, x.weight(0, v), -1001);
        }
        x.filter(24);
        due("weight(23, 1)", x.weight(23, 1), 0);
        due("weight(24, 1)", x.weight(24, 1), -1000);
    }

    private static void own() {
        PulseSigns x = new PulseSigns();
        sign(x, 3, 0, 1, 2, 3, 2);
        due("own(3)", x.own(3), 5);
        due("told(0)", x.told(0), 5);
        int[] want = {-1, 0, -1, 0, 1};
        for (int j = 0; j < 5; j++) {
            due("own, weight " + j, x.weight(j, 0), want[j]);
        }
        due("own(0)", x.own(0), 1);
        due("own of one", x.weight(0, 5), 1);
        long before = x.digest();
        for (int bad : new int[] {-1, 6, MIN, MAX}) {
            CHECK.refused("own(" + bad + ")", x, before, x.own(bad), PulseSigns.UNKNOWN);
        }
    }

    private static void answer() {
        PulseSigns x = new PulseSigns();
        sign(x, 1, 0, 1, 3);
        weights(x, 2, -5);
        // 2 (1, i, -i) and -5 (1, i, -i) one later: 2, 2i - 5, -2i - 5i, 5i
        int[][] want = {{2, 0}, {-5, 2}, {0, -7}, {0, 5}, {0, 0}};
        for (int k = 0; k < want.length; k++) {
            due("answer(1, " + k + ", 0)", x.answer(1, k, 0), want[k][0]);
            due("answer(1, " + k + ", 1)", x.answer(1, k, 1), want[k][1]);
        }
        due("answer far beyond", x.answer(1, MAX, 0), 0);
        due("answer far beyond", x.answer(1, 100, 1), 0);
        for (int bad : new int[] {-1, 6, MIN, MAX}) {
            due("answer(" + bad + ", -1, 0)", x.answer(bad, -1, 0), -100000);
        }
        for (int k : new int[] {-1, -2, MIN}) {
            due("answer(1, " + k + ", 0)", x.answer(1, k, 0), -100001);
        }
        for (int part : new int[] {-1, 2, MIN, MAX}) {
            due("answer(1, 0, " + part + ")", x.answer(1, 0, part), -100001);
        }
    }

    private static void greatest() {
        PulseSigns x = new PulseSigns();
        due("at first", x.greatest(0), 0);
        sign(x, 1, 0, 1, 3);
        weights(x, 2, -5);
        due("SIZES 4, 29, 49, 25", x.greatest(1), 2);
        weights(x, 3, 0, 0, 0, -3);
        due("of like ones the least", x.greatest(1), 0);
        weights(x, 0, 0, 0, 4);
        due("like ones later", x.greatest(1), 3);
        weights(x, 1, 0, 0, 0, 2);
        due("the last but some", x.greatest(0), 4);
        weights(x, 0, 0, 0);
        due("nothing answered", x.greatest(1), 0);
        sign(x, 2, 0, 1);
        weights(x, 0, 0, 0, 0, 0, 0, 0, 0, 0, 0, 0, 0, 0, 0, 0, 0, 0, 0, 0, 0, 0, 0, 1, 1);
        due("a sum of both parts", x.greatest(2), 23);
        x.size(0, 16);
        x.filter(24);
        x.weight(22, -49);
        x.weight(23, 50);
        due("SIZE at the very end", x.greatest(0), 38);
        for (int bad : new int[] {-1, 6, MIN, MAX}) {
            due("greatest(" + bad + ")", x.greatest(bad), PulseSigns.UNKNOWN);
        }
    }

    private static void clear() {
        PulseSigns x = new PulseSigns();
        due("at first nothing else", x.clear(0), 1000000);
        sign(x, 1, 0, 1, 3);
        weights(x, 2, -5);
        due("490 by 29", x.clear(1), 16);
        weights(x, 3, 0, 0, -3);
        due("like ones", x.clear(1), 10);
        weights(x, 0, 0, 0);
        due("nothing answered", x.clear(1), 0);
        weights(x, 1, 0, 50);
        due("more than a thousand times", x.clear(0), 25000);
        weights(x, 50, 0, 1);
        due("the greatest first", x.clear(0), 25000);
        weights(x, 0, 7);
        due("alone but later", x.clear(0), 1000000);
        // 16 TURNS that go out but once: 800 squared by 750 squared
        x.size(2, 16);
        x.filter(16);
        for (int j = 0; j < 16; j++) {
            x.weight(j, 50);
        }
        due("6400000 by 562500", x.clear(2), 11);
        for (int bad : new int[] {-1, 6, MIN, MAX}) {
            due("clear(" + bad + ")", x.clear(bad), PulseSigns.UNKNOWN);
        }
    }
}
