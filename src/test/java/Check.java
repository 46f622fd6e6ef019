/** Holds what a test found wrong; every test ends with end(). */
final class Check {
    private int calls = 0;
    private int wrong = 0;

    void due(String call, long got, long want) {
        calls++;
        if (got != want) {
            wrong++;
            System.out.println(call + " answered " + got + ", due is " + want);
        }
    }

    void holds(String what, boolean so) {
        due(what, so ? 1 : 0, 1);
    }

    /** A call that is refused answers so and leaves the object as it was. */
    void refused(String call, PulseSigns x, long before, long got, long want) {
        due(call, got, want);
        due("digest() behind the refused " + call, x.digest(), before);
    }

    void end() {
        System.out.println(calls + " answers looked at, " + wrong + " wrong");
        if (wrong != 0 || calls == 0) {
            System.exit(1);
        }
    }
}
