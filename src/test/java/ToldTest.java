/** Promises 32 and 33. */
public final class ToldTest {
    private static final Check CHECK = new Check();

    public static void main(String[] args) {
        told();
        digestOfNew();
        digestOfAll();
        asking();
        CHECK.end();
    }

    private static void due(String call, long got, long want) {
        CHECK.due(call, got, want);
    }

    private static long mixed(long... numbers) {
        long h = 181;
        for (long number : numbers) {
            h = h * 31 + number;
        }
        return h;
    }

    private static void told() {
        PulseSigns x = new PulseSigns();
        x.filter(9);
        x.rests(3);
        x.put(4);
        x.put(4);
        x.best(1, 2);
        due("told(0)", x.told(0), 9);
        due("told(1)", x.told(1), 3);
        due("told(2)", x.told(2), 2);
        due("told(3)", x.told(3), 1);
        for (int what : new int[] {-1, 4, Integer.MIN_VALUE, Integer.MAX_VALUE}) {
            due("told(" + what + ")", x.told(what), PulseSigns.OUTSIDE);
        }
    }

    private static void digestOfNew() {
        long want = mixed(1, 0, 1, 0, 1, 0, 1, 0, 1, 0, 1, 0, 1, 1, 1, 2, -1, 0);
        due("digest of a new one", new PulseSigns().digest(), want);
    }

    private static void digestOfAll() {
        PulseSigns x = new PulseSigns();
        x.size(0, 2);
        x.turn(0, 1, 3);
        x.best(5, 3);
        x.filter(2);
        x.weight(1, -7);
        x.rests(2);
        x.rest(1, 9);
        x.read(1, 8);
        x.put(0);
        x.put(10000);
        long want = mixed(2, 0, 3, 1, 0, 1, 0, 1, 0, 1, 0, 3, 0, 0, 2, 2, 0, -7, 2, 2, -1, 9, 8, 0, 10000, 1);
        due("digest of all", x.digest(), want);
        due("digest again", x.digest(), want);
    }

    /** What only asks changes nothing. */
    private static void asking() {
        PulseSigns x = new PulseSigns();
        x.best(0, 5);
        x.own(0);
        x.fold(1);
        x.put(7);
        x.put(3);
        long before = x.digest();
        x.turned(0, 1);
        x.look(0, 1, 1, 1, 1);
        x.peak(0);
        x.flank(0);
        x.worst(0);
        x.pair(0, 0);
        x.answer(0, 3, 0);
        x.greatest(0);
        x.clear(0);
        x.unfold(1, 1, 50);
        x.unfolded(1, 1, 50, 3);
        x.common();
        x.blind(-1, 50);
        x.found(0, 1, 0, 1, 1);
        x.count(1, 0, 1, 1);
        x.share(8, 3, 3, 1);
        x.scale(8, 3, 100);
        x.told(2);
        due("digest behind asking", x.digest(), before);
    }
}
