import java.util.function.Consumer;

/** Runs boundary cases, each a test of its own on an object of its own; every class of them ends with end(). */
final class Edges {
    private final int first;
    private final int[] cases;
    private int failed = 0;

    /** The promises from first to last must each have a case. */
    Edges(int first, int last) {
        this.first = first;
        this.cases = new int[last - first + 1];
    }

    void test(int promise, String sentence, Consumer<Case> body) {
        Case one = new Case("promise " + promise + ", " + sentence + ": ");
        body.accept(one);
        cases[promise - first]++;
        if (!one.ended()) {
            failed++;
        }
    }

    void end() {
        int all = 0;
        for (int i = 0; i < cases.length; i++) {
            all += cases[i];
            if (cases[i] == 0) {
                failed++;
                System.out.println("promise " + (first + i) + " has no boundary case");
            }
        }
        System.out.println(all + " boundary cases, " + failed + " failed");
        if (failed != 0) {
            System.exit(1);
        }
    }
}
