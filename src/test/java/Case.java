import java.lang.reflect.InvocationTargetException;
import java.util.Arrays;

/**
 * One boundary case: an object, and a twin that gets the same calls but for the refused ones. A refused call has changed
 * nothing if both answer alike ever after.
 */
final class Case {
    static final int MIN = Integer.MIN_VALUE;
    static final int MAX = Integer.MAX_VALUE;
    static final int NONE = -1;
    static final int UNKNOWN = -101;
    static final int OUTSIDE = -102;
    static final int FULL = -104;

    /** Stands in a call for the argument that several values are tried for. */
    static final int IT = MIN + 77;

    // the document promises nothing about an object behind its 512th call
    private static final int MOST_CALLS = 512;

    private final String where;
    private final PulseSigns object = new PulseSigns();
    private final PulseSigns twin = new PulseSigns();
    private int calls = 0;
    private int answers = 0;
    private int wrong = 0;

    Case(String where) {
        this.where = where;
    }

    /** A call that is taken: both get it, and both answer what is due. */
    void due(long want, String name, int... with) {
        same(want, call(object, name, with), written(name, with));
        same(want, call(twin, name, with), written(name, with) + " of the twin");
        calls++;
    }

    /** A call that is refused, or that finds NONE: the twin never hears of it. */
    void refused(long want, String name, int... with) {
        long before = twin.digest();
        String text = written(name, with);
        same(want, call(object, name, with), text);
        same(before, object.digest(), "digest() behind the refused " + text);
        calls += 2;
    }

    /** Each of the values, put for IT, is refused. */
    void eachRefused(long want, int[] values, String name, int... with) {
        for (int value : values) {
            refused(want, name, Arrays.stream(with).map(given -> given == IT ? value : given).toArray());
        }
    }

    /** An answer that was got elsewhere. */
    void same(long want, long got, String text) {
        answers++;
        if (got != want) {
            fail(text + " answered " + got + ", due is " + want);
        }
    }

    /** A call that only makes ready: both get it, whatever it answers. */
    void ready(String name, int... with) {
        long got = call(object, name, with);
        if (call(twin, name, with) != got) {
            fail(written(name, with) + " answered " + got + ", and something else without the refused calls");
        }
        calls++;
    }

    void sign(int c, int... turns) {
        ready("size", c, turns.length);
        for (int i = 0; i < turns.length; i++) {
            ready("turn", c, i, turns[i]);
        }
    }

    void dueSign(int c, int... turns) {
        for (int i = 0; i < turns.length; i++) {
            due(turns[i], "turned", c, i);
        }
        due(NONE, "turned", c, turns.length);
    }

    void weights(int... numbers) {
        ready("filter", numbers.length);
        for (int j = 0; j < numbers.length; j++) {
            ready("weight", j, numbers[j]);
        }
    }

    void rests(int... periods) {
        ready("rests", periods.length);
        for (int i = 0; i < periods.length; i++) {
            ready("rest", i, periods[i]);
        }
    }

    void row(int... numbers) {
        ready("empty");
        for (int number : numbers) {
            ready("put", number);
        }
    }

    /** Something everywhere, so that any change shows: SIGN c has c and 1 TURNS, SIGN 5 sixteen. */
    void filled() {
        for (int c = 0; c < 5; c++) {
            ready("size", c, c + 1);
            ready("turn", c, c, c % 3 + 1);
        }
        sign(5, 1, 2, 3, 0, 3, 2, 1, 0, 1, 1, 2, 3, 3, 0, 2, 1);
        ready("best", 1, 3);
        weights(3, -4, 50, -50);
        rests(7, 9, 10);
        ready("fold", 25);
        row(5, 3, 9, 4, 2, 8);
    }

    /** The last look at both; whether all was as due. */
    boolean ended() {
        for (int c = 0; c <= 5; c++) {
            for (int i = 0; i <= 16; i++) {
                ready("turned", c, i);
            }
        }
        for (int what = 0; what <= 3; what++) {
            ready("told", what);
        }
        ready("digest");
        for (int j = 0; j < 24; j++) {
            ready("weight", j, 0);
        }
        for (int i = 0; i < 4; i++) {
            ready("read", i, NONE);
            ready("rest", i, 2);
        }
        for (int k = 1; k <= 8; k++) {
            ready("count", 8, 0, k, 10);
        }
        ready("best", 0, 1);
        ready("empty");
        ready("digest");
        if (calls > MOST_CALLS) {
            fail("the case makes " + calls + " calls, more than an object is used for");
        }
        if (answers == 0) {
            fail("nothing was looked at");
        }
        return wrong == 0;
    }

    private void fail(String text) {
        wrong++;
        System.out.println(where + text);
    }

    private long call(PulseSigns of, String name, int... with) {
        try {
            return Calls.call(of, name, with);
        } catch (InvocationTargetException thrown) {
            fail(written(name, with) + " threw " + thrown.getCause());
            return Long.MIN_VALUE;
        } catch (ReflectiveOperationException missing) {
            throw new IllegalStateException(missing);
        }
    }

    private static String written(String name, int... with) {
        String list = Arrays.toString(with);
        return name + "(" + list.substring(1, list.length() - 1) + ")";
    }
}
