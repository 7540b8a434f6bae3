/** Counts and prints the answers that are not the due ones. */
final class Expect {
    private static final int MOST_PRINTED = 40;
    private final String title;
    private int checked;
    private int wrong;

    Expect(String title) {
        this.title = title;
    }

    void due(String what, long got, long want) {
        checked++;
        if (got != want) {
            fail(what + " answered " + got + ", due is " + want);
        }
    }

    void holds(String what, boolean condition) {
        checked++;
        if (!condition) {
            fail(what + " does not hold");
        }
    }

    void fail(String message) {
        wrong++;
        if (wrong <= MOST_PRINTED) {
            System.out.println(title + ": " + message);
        }
    }

    boolean failed() {
        return wrong > 0;
    }

    void finish() {
        System.out.println(title + ": " + checked + " answers checked, " + wrong + " wrong");
        if (wrong > 0 || checked == 0) {
            System.exit(1);
        }
    }
}
