/** Objects in the states with which several tests begin. */
final class Given {
    static final int[] PRIMES = {5, 7, 11, 13, 17, 19, 23, 29, 31};

    private Given() {
    }

    // Leaves nothing in the text buffer but the text, and returns how many characters it has then.
    static int write(DixonEliminator d, String text) {
        d.clearText();
        return append(d, text);
    }

    static int append(DixonEliminator d, String text) {
        int length = 0;
        for (int at = 0; at < text.length(); at++) {
            length = d.type(text.charAt(at));
        }
        return length;
    }

    static void put(DixonEliminator d, int k, String text) {
        write(d, text);
        if (d.read(k) < 0) {
            throw new IllegalStateException("'" + text + "' is not read");
        }
    }

    // Three changes can be undone then, and the text buffer is empty.
    static DixonEliminator of(String f, String g, String h) {
        return put(new DixonEliminator(), f, g, h);
    }

    // Four changes can be undone then, and the text buffer is empty.
    static DixonEliminator over(int p, String f, String g, String h) {
        DixonEliminator d = new DixonEliminator();
        d.setPrime(p);
        return put(d, f, g, h);
    }

    private static DixonEliminator put(DixonEliminator d, String f, String g, String h) {
        put(d, 0, f);
        put(d, 1, g);
        put(d, 2, h);
        d.clearText();
        return d;
    }

    // Its Dixon polynomial is -10 + 5 * a - y * a + y * t, so its matrix is ((-10, 5), (t, -1)).
    static DixonEliminator linear() {
        return of("x - t", "y - 5", "xy - 10");
    }

    // Its Dixon polynomial is t - 1 - t * y * a, so its eliminant is -t * (t - 1), and only t = 1 has a root, (0, 0).
    static DixonEliminator partlyExtraneous() {
        return of("x", "y", "txy + t - 1");
    }

    // A root at t = 3 that the kernel gives back as x = 1 and y = 2.
    static DixonEliminator planted() {
        DixonEliminator d = new DixonEliminator();
        d.setPrime(7);
        d.draw(12345, 2, 1, 1, 1);
        d.plant(1, 2, 3);
        return d;
    }

    // Without the factors t^2 the matrix is regular, and its determinant is 16: the eliminant is 16 * t^48.
    static DixonEliminator greatest() {
        return of("t2x2 - t2", "t2y2 - t2", "t2x2y2 + t2");
    }
}
