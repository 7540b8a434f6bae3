/** Each promise of the document by itself: ordinary arguments, the edges, and wrong arguments. */
public final class PromiseTest {
    private static final int BAD = -1, STATE = -2, FULL = -3, NONE = -9;
    private static final int LOW = Integer.MIN_VALUE, HIGH = Integer.MAX_VALUE;
    private static final Expect expect = new Expect("promises");

    public static void main(String[] args) {
        newObject();
        setPrime();
        type();
        clearText();
        readValues();
        readFaults();
        readEffects();
        setCoefficient();
        coefficient();
        draw();
        plant();
        swap();
        combine();
        combineFull();
        shift();
        value();
        degree();
        degreeAt();
        degreeDrops();
        size();
        entry();
        entryOfHigherDegree();
        entryAt();
        rankAt();
        rank();
        pivotPoint();
        selected();
        rankDrops();
        condition();
        eliminantDegree();
        eliminant();
        eliminantAt();
        multiplicity();
        extraneous();
        commonRoots();
        commonRoot();
        solvable();
        kernel();
        recovered();
        confirmed();
        undo();
        undoEveryChange();
        count();
        digest();
        withoutMatrix();
        orderOfCodes();
        lastOfRange();
        resultsFollowChanges();
        expect.finish();
    }

    // ---- objects for the tests

    private static int write(DixonEliminator d, String text) {
        return Given.write(d, text);
    }

    private static DixonEliminator of(String f, String g, String h) {
        return Given.of(f, g, h);
    }

    private static DixonEliminator linear() {
        return Given.linear();
    }

    private static DixonEliminator partlyExtraneous() {
        return Given.partlyExtraneous();
    }

    private static DixonEliminator planted() {
        return Given.planted();
    }

    // A call that fails changes nothing, and is not remembered as a change.
    private static void fails(String what, DixonEliminator d, long before, int got, int code) {
        expect.due(what, got, code);
        expect.due(what + ", digest after it", d.digest(), before);
    }

    // ---- promises 1 to 4

    private static void newObject() {
        DixonEliminator d = new DixonEliminator();
        int[] counts = {31, 0, 0, 0, 0, 0, 29791};
        for (int what = 0; what < counts.length; what++) {
            expect.due("count(" + what + ") of a new object", d.count(what), counts[what]);
        }
        for (int k = 0; k < 3; k++) {
            for (int i = 0; i < 3; i++) {
                for (int j = 0; j < 3; j++) {
                    for (int e = 0; e < 3; e++) {
                        expect.due("coefficient of a new object", d.coefficient(k, i, j, e), 0);
                    }
                }
            }
        }
        expect.due("size() of a new object", d.size(), STATE);
        expect.due("undo() of a new object", d.undo(), STATE);
        expect.due("clearText() of a new object", d.clearText(), 0);
        expect.due("read(0) of a new object", d.read(0), -10);
    }

    private static void setPrime() {
        int[] primes = {5, 7, 11, 13, 17, 19, 23, 29, 31};
        int before = 31;
        DixonEliminator d = new DixonEliminator();
        for (int p : primes) {
            expect.due("setPrime(" + p + ")", d.setPrime(p), before);
            expect.due("count(0) after setPrime(" + p + ")", d.count(0), p);
            before = p;
        }
        d = linear();
        write(d, "xyz");
        long digest = d.digest();
        int next = 0;
        for (int p = -5; p < 70; p++) {
            if (next < primes.length && primes[next] == p) {
                next++;
            } else {
                fails("setPrime(" + p + ")", d, digest, d.setPrime(p), BAD);
            }
        }
        for (int p : new int[] {LOW, HIGH, -7, -31, 2, 3, 37}) {
            fails("setPrime(" + p + ")", d, digest, d.setPrime(p), BAD);
        }
        expect.due("count(4)", d.count(4), 3);
        expect.due("the same prime number", d.setPrime(31), 31);
        expect.due("terms after it", d.count(5), 0);
        expect.due("changes after it", d.count(4), 4);
        expect.due("the text stays", d.count(3), 3);
        expect.due("undo() of it", d.undo(), 3);
        expect.due("digest after undo", d.digest(), digest);
        d.setPrime(5);
        expect.due("undo() of another", d.undo(), 3);
        expect.due("p after undo", d.count(0), 31);
        expect.due("digest after undo", d.digest(), digest);
    }

    private static void type() {
        DixonEliminator d = new DixonEliminator();
        for (int code : new int[] {31, 127, 0, -1, 128, 65568, LOW, HIGH}) {
            expect.due("type(" + code + ")", d.type(code), BAD);
        }
        expect.due("count(3)", d.count(3), 0);
        expect.due("type(32)", d.type(32), 1);
        expect.due("type(126)", d.type(126), 2);
        for (int length = 3; length <= 60; length++) {
            expect.due("type(120)", d.type(120), length);
        }
        expect.due("type(120) as the 61st", d.type(120), FULL);
        expect.due("type(31) as the 61st", d.type(31), BAD);
        expect.due("count(3)", d.count(3), 60);
        expect.due("count(4)", d.count(4), 0);
    }

    private static void clearText() {
        DixonEliminator d = new DixonEliminator();
        expect.due("clearText() of nothing", d.clearText(), 0);
        write(d, "x+y+t");
        expect.due("clearText()", d.clearText(), 5);
        expect.due("clearText() again", d.clearText(), 0);
        expect.due("read after it", d.read(0), -10);
        expect.due("type after it", d.type('y'), 1);
        expect.due("read of the new text", d.read(0), 1);
        expect.due("its coefficient", d.coefficient(0, 0, 1, 0), 1);
        expect.due("changes", d.count(4), 1);
    }

    // ---- promise 5

    private static void reads(String text, int terms, int... quadruples) {
        DixonEliminator d = new DixonEliminator();
        expect.due("length of '" + text + "'", write(d, text), text.length());
        expect.due("read of '" + text + "'", d.read(1), terms);
        for (int q = 0; q + 3 < quadruples.length; q += 4) {
            expect.due("coefficient of '" + text + "'",
                    d.coefficient(1, quadruples[q], quadruples[q + 1], quadruples[q + 2]), quadruples[q + 3]);
        }
        expect.due("all terms of '" + text + "'", d.count(5), terms);
    }

    private static void readValues() {
        reads("x", 1, 1, 0, 0, 1);
        reads("y", 1, 0, 1, 0, 1);
        reads("t", 1, 0, 0, 1, 1);
        reads("x0", 1, 0, 0, 0, 1);
        reads("x1", 1, 1, 0, 0, 1);
        reads("x2y1t0", 1, 2, 1, 0, 1);
        reads("t2y2x2", 1, 2, 2, 2, 1);
        reads("tyx", 1, 1, 1, 1, 1);
        reads("7", 1, 0, 0, 0, 7);
        reads("-7", 1, 0, 0, 0, 24);
        reads("+7", 1, 0, 0, 0, 7);
        reads("0", 0);
        reads("31", 0);
        reads("000", 0);
        reads("007x", 1, 1, 0, 0, 7);
        reads("999", 1, 0, 0, 0, 7);
        reads("-999", 1, 0, 0, 0, 24);
        reads("999x2y2t2", 1, 2, 2, 2, 7);
        reads("12x2", 1, 2, 0, 0, 12);
        reads("x - x", 0);
        reads("x+x+x", 1, 1, 0, 0, 3);
        reads("30x+x", 0);
        reads("-x-x-1-1", 2, 1, 0, 0, 29, 0, 0, 0, 29);
        reads("3-4y+5t2", 3, 0, 0, 0, 3, 0, 1, 0, 27, 0, 0, 2, 5);
        reads("  -  12  x2  y  t  +  3  -  t2  ", 3, 2, 1, 1, 19, 0, 0, 0, 3, 0, 0, 2, 30);
        reads("2 x", 1, 1, 0, 0, 2);
        reads(" x ", 1, 1, 0, 0, 1);
        reads("x0y0t0", 1, 0, 0, 0, 1);
        reads("x0+y0+t0+1", 1, 0, 0, 0, 4);
        reads("x+x+x+x+x+x+x+x+x+x+x+x+x+x+x+x+x+x+x+x+x+x+x+x+x+x+x+x+x+1 ", 2, 1, 0, 0, 29, 0, 0, 0, 1);
        reads("                                                           y", 1, 0, 1, 0, 1);
    }

    private static void faultAt(String text, int position) {
        DixonEliminator d = linear();
        write(d, text);
        fails("read of '" + text + "'", d, d.digest(), d.read(1), -10 - position);
        expect.due("changes after the fault", d.count(4), 3);
    }

    private static void readFaults() {
        faultAt("", 0);
        faultAt(" ", 1);
        faultAt("     ", 5);
        faultAt("+", 1);
        faultAt("- ", 2);
        faultAt(" - ", 3);
        faultAt("++x", 1);
        faultAt("+-x", 1);
        faultAt("x+", 2);
        faultAt("x + ", 4);
        faultAt("x+-y", 2);
        faultAt("x--y", 2);
        faultAt("x3", 1);
        faultAt("x9", 1);
        faultAt("x20", 2);
        faultAt("x02", 2);
        faultAt("x11", 2);
        faultAt("x 2", 2);
        faultAt("x  1", 3);
        faultAt("xy3", 2);
        faultAt("1000", 3);
        faultAt("0001", 3);
        faultAt("x+1000", 5);
        faultAt("1 0", 2);
        faultAt("12 3x", 3);
        faultAt("xx", 1);
        faultAt("x x", 2);
        faultAt("xyx", 2);
        faultAt("xytt", 3);
        faultAt("x1y1x1", 4);
        faultAt("xytx", 3);
        faultAt("x2x", 2);
        faultAt("z", 0);
        faultAt("X", 0);
        faultAt("xY", 1);
        faultAt("a+b", 0);
        faultAt("2*x", 1);
        faultAt("x*y", 1);
        faultAt("x^2", 1);
        faultAt("3.5", 1);
        faultAt("x,y", 1);
        faultAt("x2 y0t + -3", 9);
        faultAt("5x 5", 3);
        faultAt("x y t 2", 6);
        faultAt("x+(", 2);
        faultAt("/", 0);
        faultAt(":", 0);
        faultAt("1/", 1);
        faultAt("1:", 1);
        faultAt("x/", 1);
        faultAt("x+x+x+x+x+x+x+x+x+x+x+x+x+x+x+x+x+x+x+x+x+x+x+x+x+x+x+x+x+x+", 60);
        faultAt("x+x+x+x+x+x+x+x+x+x+x+x+x+x+x+x+x+x+x+x+x+x+x+x+x+x+x+x+x+xx", 59);
    }

    private static void readEffects() {
        DixonEliminator d = linear();
        write(d, "x2 - 3");
        long digest = d.digest();
        fails("read(-1)", d, digest, d.read(-1), BAD);
        fails("read(3)", d, digest, d.read(3), BAD);
        fails("read(LOW)", d, digest, d.read(LOW), BAD);
        fails("read(HIGH)", d, digest, d.read(HIGH), BAD);
        expect.due("read(2)", d.read(2), 2);
        expect.due("the text stays", d.count(3), 6);
        expect.due("what stood there is gone", d.coefficient(2, 1, 1, 0), 0);
        expect.due("what is read", d.coefficient(2, 2, 0, 0), 1);
        expect.due("what is read", d.coefficient(2, 0, 0, 0), 28);
        expect.due("the others stay", d.coefficient(0, 1, 0, 0), 1);
        expect.due("read(0) of the same text", d.read(0), 2);
        expect.due("it is there twice", d.swap(0, 2), 0);
        expect.due("undo()", d.undo(), 5);
        expect.due("undo()", d.undo(), 4);
        expect.due("undo()", d.undo(), 3);
        expect.due("terms", d.count(5), 6);
        write(d, "?");
        expect.due("BAD before the fault", d.read(5), BAD);
        d.setPrime(5);
        write(d, "999x - 5y - 4");
        expect.due("read with p = 5", d.read(0), 2);
        expect.due("999 with p = 5", d.coefficient(0, 1, 0, 0), 4);
        expect.due("-4 with p = 5", d.coefficient(0, 0, 0, 0), 1);
    }

    // ---- promises 6 to 12

    private static void setCoefficient() {
        DixonEliminator d = linear();
        long digest = d.digest();
        int[] wrong = {-1, 3, LOW, HIGH};
        for (int v : wrong) {
            fails("setCoefficient with k = " + v, d, digest, d.setCoefficient(v, 0, 0, 0, 1), BAD);
            fails("setCoefficient with i = " + v, d, digest, d.setCoefficient(0, v, 0, 0, 1), BAD);
            fails("setCoefficient with j = " + v, d, digest, d.setCoefficient(0, 0, v, 0, 1), BAD);
            fails("setCoefficient with e = " + v, d, digest, d.setCoefficient(0, 0, 0, v, 1), BAD);
        }
        for (int v : new int[] {-1, 31, LOW, HIGH}) {
            fails("setCoefficient to " + v, d, digest, d.setCoefficient(0, 0, 0, 0, v), BAD);
        }
        expect.due("setCoefficient", d.setCoefficient(1, 0, 1, 0, 30), 1);
        expect.due("setCoefficient again", d.setCoefficient(1, 0, 1, 0, 30), 30);
        expect.due("the same coefficient is a change", d.count(4), 5);
        expect.due("setCoefficient to 0", d.setCoefficient(1, 0, 1, 0, 0), 30);
        expect.due("coefficient", d.coefficient(1, 0, 1, 0), 0);
        d.undo();
        d.undo();
        d.undo();
        expect.due("digest after undo", d.digest(), digest);
        d.setPrime(5);
        expect.due("5 with p = 5", d.setCoefficient(0, 0, 0, 0, 5), BAD);
        expect.due("4 with p = 5", d.setCoefficient(0, 0, 0, 0, 4), 0);
    }

    private static void coefficient() {
        DixonEliminator d = new DixonEliminator();
        int v = 0;
        for (int k = 0; k < 3; k++) {
            for (int i = 0; i < 3; i++) {
                for (int j = 0; j < 3; j++) {
                    for (int e = 0; e < 3; e++) {
                        v++;
                        d.setCoefficient(k, i, j, e, v % 31);
                    }
                }
            }
        }
        v = 0;
        for (int k = 0; k < 3; k++) {
            for (int i = 0; i < 3; i++) {
                for (int j = 0; j < 3; j++) {
                    for (int e = 0; e < 3; e++) {
                        v++;
                        expect.due("coefficient number " + v, d.coefficient(k, i, j, e), v % 31);
                    }
                }
            }
        }
        for (int wrong : new int[] {-1, 3, LOW, HIGH}) {
            expect.due("coefficient with k = " + wrong, d.coefficient(wrong, 0, 0, 0), BAD);
            expect.due("coefficient with i = " + wrong, d.coefficient(0, wrong, 0, 0), BAD);
            expect.due("coefficient with j = " + wrong, d.coefficient(0, 0, wrong, 0), BAD);
            expect.due("coefficient with e = " + wrong, d.coefficient(0, 0, 0, wrong), BAD);
        }
    }

    private static void drawnAs(int p, int seed, int u, int v, int w, int thin) {
        DixonEliminator d = new DixonEliminator();
        d.setPrime(p);
        d.setCoefficient(2, 2, 2, 2, 1);
        int got = d.draw(seed, u, v, w, thin);
        String call = "draw(" + seed + ", " + u + ", " + v + ", " + w + ", " + thin + ") with p = " + p;
        int z = seed;
        int found = 0;
        for (int q = 0; q < 81; q++) {
            z = z * 1103515245 + 12345;
            int number = (z >>> 16) & 32767;
            int k = q / 27, i = q / 9 % 3, j = q / 3 % 3, e = q % 3;
            boolean kept = i <= u && j <= v && e <= w && number / p % thin == 0;
            int due = kept ? number % p : 0;
            found += due != 0 ? 1 : 0;
            expect.due(call + ", coefficient " + q, d.coefficient(k, i, j, e), due);
        }
        expect.due(call, got, found);
        expect.due(call + ", changes", d.count(4), 3);
        d.undo();
        expect.due(call + ", undone", d.count(5), 1);
    }

    private static void draw() {
        drawnAs(31, 0, 2, 2, 2, 1);
        drawnAs(31, 12345, 2, 2, 2, 9);
        drawnAs(5, -77, 2, 2, 2, 1);
        drawnAs(7, LOW, 1, 2, 0, 2);
        drawnAs(29, HIGH, 0, 0, 2, 1);
        drawnAs(13, -1, 0, 2, 1, 3);
        drawnAs(17, 99, 2, 0, 1, 5);
        drawnAs(31, 7, 0, 0, 0, 1);
        DixonEliminator d = linear();
        long digest = d.digest();
        for (int wrong : new int[] {-1, 3, LOW, HIGH}) {
            fails("draw with u = " + wrong, d, digest, d.draw(1, wrong, 1, 1, 1), BAD);
            fails("draw with v = " + wrong, d, digest, d.draw(1, 1, wrong, 1, 1), BAD);
            fails("draw with w = " + wrong, d, digest, d.draw(1, 1, 1, wrong, 1), BAD);
        }
        for (int wrong : new int[] {0, 10, -1, LOW, HIGH}) {
            fails("draw with thin = " + wrong, d, digest, d.draw(1, 1, 1, 1, wrong), BAD);
        }
    }

    private static void plant() {
        DixonEliminator d = linear();
        long digest = d.digest();
        for (int wrong : new int[] {-1, 31, LOW, HIGH}) {
            fails("plant with x = " + wrong, d, digest, d.plant(wrong, 0, 0), BAD);
            fails("plant with y = " + wrong, d, digest, d.plant(0, wrong, 0), BAD);
            fails("plant with t = " + wrong, d, digest, d.plant(0, 0, wrong), BAD);
        }
        expect.due("plant where a root is", d.plant(2, 5, 2), 0);
        expect.due("changes", d.count(4), 4);
        expect.due("plant(2, 6, 2)", d.plant(2, 6, 2), 2);
        expect.due("the first stays", d.coefficient(0, 0, 0, 0), 0);
        expect.due("the second is y - 6", d.coefficient(1, 0, 0, 0), 25);
        expect.due("the third is xy - 12", d.coefficient(2, 0, 0, 0), 19);
        expect.due("plant(3, 6, 2)", d.plant(3, 6, 2), 2);
        expect.due("the first is x - t - 1", d.coefficient(0, 0, 0, 0), 30);
        expect.due("plant(30, 30, 30)", d.plant(30, 30, 30), 3);
        for (int k = 0; k < 3; k++) {
            expect.due("value at the root", d.value(k, 30, 30, 30), 0);
        }
        expect.due("the root", d.commonRoot(30, 0), 3030);
        d.undo();
        d.undo();
        d.undo();
        d.undo();
        expect.due("digest after undo", d.digest(), digest);
        d.setPrime(5);
        expect.due("plant(5, 0, 0) with p = 5", d.plant(5, 0, 0), BAD);
        expect.due("plant of nothing", d.plant(4, 4, 4), 0);
    }

    private static void swap() {
        DixonEliminator d = linear();
        long digest = d.digest();
        for (int wrong : new int[] {-1, 3, LOW, HIGH}) {
            fails("swap with k = " + wrong, d, digest, d.swap(wrong, 0), BAD);
            fails("swap with l = " + wrong, d, digest, d.swap(0, wrong), BAD);
            fails("swap with both " + wrong, d, digest, d.swap(wrong, wrong), BAD);
        }
        expect.due("swap(0, 1)", d.swap(0, 1), 1);
        expect.due("the former second", d.coefficient(0, 0, 1, 0), 1);
        expect.due("the former first", d.coefficient(1, 0, 0, 1), 30);
        expect.due("nothing else in the first", d.coefficient(0, 1, 0, 0), 0);
        expect.due("the sign of an entry changes", d.entry(0, 0, 0), 10);
        expect.due("swap(2, 2)", d.swap(2, 2), 0);
        expect.due("swap(2, 2) is a change", d.count(4), 5);
        expect.due("swap(1, 0)", d.swap(1, 0), 1);
        expect.due("undo()", d.undo(), 5);
        expect.due("undo()", d.undo(), 4);
        expect.due("undo()", d.undo(), 3);
        expect.due("digest after undo", d.digest(), digest);
        d = of("x + y", "x + y", "x");
        expect.due("swap of equal polynomials", d.swap(0, 1), 0);
        expect.due("it is a change", d.count(4), 4);
        expect.due("swap of others", d.swap(1, 2), 1);
        expect.due("the third", d.coefficient(2, 0, 1, 0), 1);
    }

    private static void combine() {
        DixonEliminator d = linear();
        long digest = d.digest();
        for (int wrong : new int[] {-1, 3, LOW, HIGH}) {
            fails("combine with k = " + wrong, d, digest, d.combine(wrong, 1, 1, 0, 0, 0), BAD);
            fails("combine with l = " + wrong, d, digest, d.combine(0, wrong, 1, 0, 0, 0), BAD);
            fails("combine with i = " + wrong, d, digest, d.combine(0, 1, 1, wrong, 0, 0), BAD);
            fails("combine with j = " + wrong, d, digest, d.combine(0, 1, 1, 0, wrong, 0), BAD);
            fails("combine with e = " + wrong, d, digest, d.combine(0, 1, 1, 0, 0, wrong), BAD);
        }
        for (int wrong : new int[] {-1, 31, LOW, HIGH}) {
            fails("combine with c = " + wrong, d, digest, d.combine(0, 1, wrong, 0, 0, 0), BAD);
        }
        for (int k = 0; k < 3; k++) {
            fails("combine of one with itself", d, digest, d.combine(k, k, 1, 0, 0, 0), BAD);
        }
        expect.due("xy - 10 - y * (x - t)", d.combine(2, 0, 30, 0, 1, 0), 2);
        expect.due("xy is gone", d.coefficient(2, 1, 1, 0), 0);
        expect.due("yt is there", d.coefficient(2, 0, 1, 1), 1);
        expect.due("-10 stays", d.coefficient(2, 0, 0, 0), 21);
        expect.due("the other stays", d.coefficient(0, 0, 0, 1), 30);
        expect.due("2 * x * y * t * (y - 5) + x - t", d.combine(0, 1, 2, 1, 1, 1), 4);
        expect.due("x * y^2 * t", d.coefficient(0, 1, 2, 1), 2);
        expect.due("x * y * t", d.coefficient(0, 1, 1, 1), 21);
        expect.due("undo()", d.undo(), 4);
        expect.due("undo()", d.undo(), 3);
        expect.due("digest after undo", d.digest(), digest);
        expect.due("the factor 0", d.combine(0, 1, 0, 2, 2, 2), 2);
        expect.due("it is a change", d.count(4), 4);
        expect.due("nothing is added", d.coefficient(0, 0, 0, 1), 30);
    }

    private static void combineFull() {
        DixonEliminator d = of("x2 + y + 1", "x + y2", "x + t2");
        long digest = d.digest();
        fails("x^3", d, digest, d.combine(1, 0, 1, 1, 0, 0), FULL);
        fails("x^4", d, digest, d.combine(1, 0, 30, 2, 0, 0), FULL);
        fails("y^3", d, digest, d.combine(0, 1, 1, 0, 1, 0), FULL);
        fails("y^3 of y * y^2", d, digest, d.combine(2, 1, 1, 0, 1, 0), FULL);
        fails("t^3", d, digest, d.combine(0, 2, 1, 0, 0, 1), FULL);
        fails("y^3 of y", d, digest, d.combine(2, 0, 1, 0, 2, 1), FULL);
        fails("BAD before FULL", d, digest, d.combine(3, 0, 1, 1, 0, 0), BAD);
        fails("BAD before FULL with an exponent", d, digest, d.combine(1, 0, 1, 1, 3, 0), BAD);
        fails("itself before FULL", d, digest, d.combine(0, 0, 1, 1, 0, 0), BAD);
        expect.due("the greatest that fits", d.combine(1, 0, 1, 0, 1, 2), 5);
        expect.due("x^2 * y * t^2", d.coefficient(1, 2, 1, 2), 1);
        expect.due("y^2 * t^2", d.coefficient(1, 0, 2, 2), 1);
        expect.due("y * t^2", d.coefficient(1, 0, 1, 2), 1);
        expect.due("0 * what does not fit", d.combine(1, 0, 0, 2, 2, 2), 5);
        d.setPrime(5);
        expect.due("nothing times what does not fit", d.combine(0, 1, 1, 2, 2, 2), 0);
        expect.due("c = 5 with p = 5", d.combine(0, 1, 5, 0, 0, 0), BAD);
    }

    private static void shift() {
        DixonEliminator d = of("3t2x + 5tx + 7x + y", "t2", "tx - 2y");
        long digest = d.digest();
        for (int wrong : new int[] {-1, 31, LOW, HIGH}) {
            fails("shift(" + wrong + ")", d, digest, d.shift(wrong), BAD);
        }
        expect.due("shift(0)", d.shift(0), 7);
        expect.due("shift(0) is a change", d.count(4), 4);
        d.undo();
        expect.due("digest after it", d.digest(), digest);
        expect.due("shift(2)", d.shift(2), 10);
        expect.due("3 * t^2", d.coefficient(0, 1, 0, 2), 3);
        expect.due("12 * t + 5 * t", d.coefficient(0, 1, 0, 1), 17);
        expect.due("12 + 10 + 7", d.coefficient(0, 1, 0, 0), 29);
        expect.due("y stays", d.coefficient(0, 0, 1, 0), 1);
        expect.due("t^2", d.coefficient(1, 0, 0, 2), 1);
        expect.due("4 * t", d.coefficient(1, 0, 0, 1), 4);
        expect.due("4", d.coefficient(1, 0, 0, 0), 4);
        expect.due("2 * x", d.coefficient(2, 1, 0, 0), 2);
        expect.due("-2 * y stays", d.coefficient(2, 0, 1, 0), 29);
        expect.due("shift(29) back", d.shift(29), 7);
        d.undo();
        expect.due("undo()", d.undo(), 3);
        expect.due("digest after undo", d.digest(), digest);
        d.shift(30);
        expect.due("value after shift(30)", d.value(0, 4, 0, 1), 28);
    }

    // ---- promises 13 to 16

    private static void value() {
        DixonEliminator d = of("2x2y2t2 + 3xy - t + 4", "x", "y2 - t2");
        expect.due("value at (2, 3, 1)", d.value(0, 2, 3, 1), 0);
        expect.due("value at (1, 1, 0)", d.value(0, 1, 1, 0), 7);
        expect.due("value at (0, 0, 0)", d.value(0, 0, 0, 0), 4);
        expect.due("value at (30, 30, 30)", d.value(0, 30, 30, 30), 10);
        expect.due("value of x", d.value(1, 17, 3, 5), 17);
        expect.due("value of y^2 - t^2", d.value(2, 0, 3, 5), 15);
        for (int wrong : new int[] {-1, 3, LOW, HIGH}) {
            expect.due("value with k = " + wrong, d.value(wrong, 0, 0, 0), BAD);
        }
        for (int wrong : new int[] {-1, 31, LOW, HIGH}) {
            expect.due("value with x = " + wrong, d.value(0, wrong, 0, 0), BAD);
            expect.due("value with y = " + wrong, d.value(0, 0, wrong, 0), BAD);
            expect.due("value with t = " + wrong, d.value(0, 0, 0, wrong), BAD);
        }
        d.setPrime(7);
        expect.due("value with x = p", d.value(0, 7, 0, 0), BAD);
        expect.due("value with x = p - 1", d.value(0, 6, 6, 6), 0);
    }

    private static void degree() {
        DixonEliminator d = of("x2 + y + 1", "xy2t", "5 + t2");
        int[][] due = {{2, 1, 0}, {1, 2, 1}, {0, 0, 2}};
        for (int k = 0; k < 3; k++) {
            for (int variable = 0; variable < 3; variable++) {
                expect.due("degree(" + k + ", " + variable + ")", d.degree(k, variable), due[k][variable]);
            }
        }
        for (int wrong : new int[] {-1, 3, LOW, HIGH}) {
            expect.due("degree with k = " + wrong, d.degree(wrong, 0), BAD);
            expect.due("degree with variable = " + wrong, d.degree(0, wrong), BAD);
        }
        expect.due("degree of nothing", new DixonEliminator().degree(0, 2), 0);
    }

    private static void degreeAt() {
        DixonEliminator d = of("tx2 - x2 + t2x + y2 - ty2 + y", "tx", "x2y");
        int[][] due = {{2, 2}, {1, 1}, {2, 2}};
        for (int t = 0; t < 3; t++) {
            for (int variable = 0; variable < 2; variable++) {
                String call = "degreeAt(0, " + variable + ", " + t + ")";
                expect.due(call, d.degreeAt(0, variable, t), due[t][variable]);
            }
        }
        expect.due("degreeAt(1, 0, 0)", d.degreeAt(1, 0, 0), 0);
        expect.due("degreeAt(1, 0, 30)", d.degreeAt(1, 0, 30), 1);
        expect.due("degreeAt(1, 1, 30)", d.degreeAt(1, 1, 30), 0);
        expect.due("degreeAt(2, 0, 0)", d.degreeAt(2, 0, 0), 2);
        expect.due("degreeAt(2, 1, 0)", d.degreeAt(2, 1, 0), 1);
        for (int wrong : new int[] {-1, 3, LOW, HIGH}) {
            expect.due("degreeAt with k = " + wrong, d.degreeAt(wrong, 0, 0), BAD);
        }
        for (int wrong : new int[] {-1, 2, 3, LOW, HIGH}) {
            expect.due("degreeAt with variable = " + wrong, d.degreeAt(0, wrong, 0), BAD);
        }
        for (int wrong : new int[] {-1, 31, LOW, HIGH}) {
            expect.due("degreeAt with t = " + wrong, d.degreeAt(0, 0, wrong), BAD);
        }
    }

    private static void degreeDrops() {
        expect.due("degreeDrops() of nothing", new DixonEliminator().degreeDrops(), 0);
        expect.due("degreeDrops() of constants", linear().degreeDrops(), 0);
        expect.due("a drop in x", of("t2x - x", "1", "y").degreeDrops(), 1 << 1 | 1 << 30);
        expect.due("a drop in y", of("y2", "2", "ty2 - 7y2 + 3y").degreeDrops(), 1 << 7);
        expect.due("drops in several", of("tx + y", "ty - 2y", "x2 + y2").degreeDrops(), 1 | 1 << 2);
        expect.due("a drop that another term makes up for", of("tx2 + x2y", "1", "1").degreeDrops(), 0);
        expect.due("no drop in t", of("t2", "t - 1", "t").degreeDrops(), 0);
        DixonEliminator d = of("tx - 30x", "1", "1");
        expect.due("a drop at p - 1", d.degreeDrops(), 1 << 30);
    }

    // ---- promises 17 to 25

    private static void size() {
        expect.due("size() of nothing", new DixonEliminator().size(), STATE);
        expect.due("size() without y", of("x2", "x", "t").size(), STATE);
        expect.due("size() without x", of("y2", "y", "t").size(), STATE);
        expect.due("size() with m = 1, n = 1", of("x", "y", "0").size(), 2);
        expect.due("size() with m = 2, n = 1", of("x", "y", "x2").size(), 4);
        expect.due("size() with m = 1, n = 2", of("x", "y2", "0").size(), 4);
        expect.due("size() with m = 2, n = 2", of("0", "x2y2", "0").size(), 8);
        expect.due("size() with factors of t alone", of("tx", "t2y", "0").size(), 2);
    }

    private static void entry() {
        DixonEliminator d = linear();
        int[][][] due = {{{21, 0}, {5, 0}}, {{0, 1}, {30, 0}}};
        for (int row = 0; row < 2; row++) {
            for (int column = 0; column < 2; column++) {
                for (int e = 0; e < 7; e++) {
                    String call = "entry(" + row + ", " + column + ", " + e + ")";
                    expect.due(call, d.entry(row, column, e), e < 2 ? due[row][column][e] : 0);
                }
            }
        }
        for (int wrong : new int[] {-1, 2, 8, LOW, HIGH}) {
            expect.due("entry with row = " + wrong, d.entry(wrong, 0, 0), BAD);
            expect.due("entry with column = " + wrong, d.entry(0, wrong, 0), BAD);
        }
        for (int wrong : new int[] {-1, 7, LOW, HIGH}) {
            expect.due("entry with e = " + wrong, d.entry(0, 0, wrong), BAD);
        }
        d = new DixonEliminator();
        expect.due("entry without a matrix", d.entry(0, 0, 0), STATE);
        expect.due("entry without a matrix, row = -1", d.entry(-1, 0, 6), STATE);
        expect.due("entry without a matrix, column = 9", d.entry(0, 9, 6), STATE);
        expect.due("entry without a matrix, e = 7", d.entry(0, 0, 7), BAD);
        expect.due("entry without a matrix, e = -1", d.entry(-1, -1, -1), BAD);
    }

    // With f = t2 * x2, g = t2 * y2, h = t2 the Dixon polynomial is t^6 * (x + a) * (y + b).
    private static void entryOfHigherDegree() {
        DixonEliminator d = of("t2x2", "t2y2", "t2");
        expect.due("size()", d.size(), 8);
        for (int row = 0; row < 8; row++) {
            for (int column = 0; column < 8; column++) {
                boolean xy = row == 3 && column == 0;
                boolean ya = row == 2 && column == 1;
                boolean xb = row == 1 && column == 4;
                boolean ab = row == 0 && column == 5;
                String call = "entry(" + row + ", " + column + ", 6)";
                expect.due(call, d.entry(row, column, 6), xy || ya || xb || ab ? 1 : 0);
                expect.due("entry(" + row + ", " + column + ", 5)", d.entry(row, column, 5), 0);
            }
        }
        expect.due("rank()", d.rank(), 4);
        expect.due("pivotPoint()", d.pivotPoint(), 1);
        expect.due("selected rows", d.selected(true), 15);
        expect.due("selected columns", d.selected(false), 1 | 2 | 16 | 32);
        expect.due("eliminantDegree", d.eliminantDegree(false), 24);
        expect.due("its leading coefficient", d.eliminant(false, 24), 1);
        expect.due("multiplicity(0)", d.multiplicity(0), 24);
        expect.due("rankDrops()", d.rankDrops(), 1);
        expect.due("extraneous()", d.extraneous(), 0);
        expect.due("commonRoots(0)", d.commonRoots(0), 961);
        expect.due("entry(8, 0, 0)", d.entry(8, 0, 0), BAD);
        expect.due("entry(0, 8, 0)", d.entry(0, 8, 0), BAD);
    }

    private static void entryAt() {
        DixonEliminator d = linear();
        int[][] due = {{21, 5}, {9, 30}};
        for (int row = 0; row < 2; row++) {
            for (int column = 0; column < 2; column++) {
                String call = "entryAt(" + row + ", " + column + ", 9)";
                expect.due(call, d.entryAt(row, column, 9), due[row][column]);
            }
        }
        expect.due("entryAt(1, 0, 30)", d.entryAt(1, 0, 30), 30);
        for (int wrong : new int[] {-1, 2, 8, LOW, HIGH}) {
            expect.due("entryAt with row = " + wrong, d.entryAt(wrong, 0, 0), BAD);
            expect.due("entryAt with column = " + wrong, d.entryAt(0, wrong, 0), BAD);
        }
        for (int wrong : new int[] {-1, 31, LOW, HIGH}) {
            expect.due("entryAt with t = " + wrong, d.entryAt(0, 0, wrong), BAD);
        }
        d = new DixonEliminator();
        expect.due("entryAt without a matrix", d.entryAt(0, 0, 0), STATE);
        expect.due("entryAt without a matrix, row = -1", d.entryAt(-1, 9, 0), STATE);
        expect.due("entryAt without a matrix, t = 31", d.entryAt(0, 0, 31), BAD);
        expect.due("t^6 at 2", of("t2x2", "t2y2", "t2").entryAt(0, 5, 2), 2);
    }

    private static void rankAt() {
        DixonEliminator d = linear();
        for (int t = 0; t < 31; t++) {
            expect.due("rankAt(" + t + ")", d.rankAt(t), t == 2 ? 1 : 2);
        }
        for (int wrong : new int[] {-1, 31, LOW, HIGH}) {
            expect.due("rankAt(" + wrong + ")", d.rankAt(wrong), BAD);
            expect.due("rankAt without a matrix", new DixonEliminator().rankAt(wrong), BAD);
        }
        expect.due("rankAt without a matrix", new DixonEliminator().rankAt(0), STATE);
        expect.due("rankAt of a zero matrix", of("xy", "0", "0").rankAt(30), 0);
        expect.due("rankAt(0) of t * 1", of("tx", "y", "1").rankAt(0), 0);
    }

    private static void rank() {
        expect.due("rank()", linear().rank(), 2);
        expect.due("rank() without a matrix", new DixonEliminator().rank(), STATE);
        expect.due("rank() of a zero matrix", of("xy", "0", "0").rank(), 0);
        expect.due("rank() of -y * a", of("x", "y", "xy").rank(), 1);
        expect.due("rank() of t", of("tx", "y", "1").rank(), 1);
        // t * (t - 1) * .. is 0 at each t of the field, but not as a polynomial: the rank asks for the values.
        DixonEliminator d = of("t2x - x", "t2y - 4y", "t");
        d.setPrime(5);
        write(d, "t2x - x");
        d.read(0);
        write(d, "t2y - 4y");
        d.read(1);
        write(d, "t");
        d.read(2);
        expect.due("the entry is no zero polynomial", d.entry(0, 0, 5), 1);
        expect.due("rank() where all values are 0", d.rank(), 0);
        expect.due("its pivot point", d.pivotPoint(), 0);
        expect.due("its eliminant", d.eliminant(false, 0), 1);
        expect.due("its eliminant's degree", d.eliminantDegree(true), 0);
        expect.due("its rankDrops()", d.rankDrops(), 0);
        expect.due("its condition()", d.condition(), 0);
    }

    private static void pivotPoint() {
        expect.due("pivotPoint()", linear().pivotPoint(), 0);
        expect.due("pivotPoint() without a matrix", new DixonEliminator().pivotPoint(), STATE);
        DixonEliminator d = linear();
        d.shift(2);
        expect.due("pivotPoint() with the drop at 0", d.pivotPoint(), 1);
        expect.due("pivotPoint() of two drops", partlyExtraneous().pivotPoint(), 2);
        expect.due("pivotPoint() of a zero matrix", of("xy", "0", "0").pivotPoint(), 0);
    }

    private static void selected() {
        DixonEliminator d = of("x", "y", "xy");
        expect.due("rows of -y * a", d.selected(true), 2);
        expect.due("columns of -y * a", d.selected(false), 2);
        d = of("x", "xy", "1");
        expect.due("rows of a", d.selected(true), 1);
        expect.due("columns of a", d.selected(false), 2);
        d = of("xy", "y", "1");
        expect.due("rows of y", d.selected(true), 2);
        expect.due("columns of y", d.selected(false), 1);
        expect.due("rows without a matrix", new DixonEliminator().selected(true), STATE);
        expect.due("columns without a matrix", new DixonEliminator().selected(false), STATE);
        expect.due("rows of a zero matrix", of("xy", "0", "0").selected(true), 0);
        expect.due("rows of a regular matrix", linear().selected(true), 3);
        expect.due("columns of a regular matrix", linear().selected(false), 3);
    }

    private static void rankDrops() {
        expect.due("rankDrops()", linear().rankDrops(), 4);
        expect.due("two drops", partlyExtraneous().rankDrops(), 3);
        expect.due("no drops", of("x", "y", "1").rankDrops(), 0);
        expect.due("no drops of a zero matrix", of("xy", "0", "0").rankDrops(), 0);
        expect.due("rankDrops() without a matrix", new DixonEliminator().rankDrops(), STATE);
        DixonEliminator d = linear();
        d.shift(3);
        expect.due("a drop at 30", d.rankDrops(), 1 << 30);
    }

    private static void condition() {
        expect.due("condition()", linear().condition(), 1);
        expect.due("condition() of -y * a", of("x", "y", "xy").condition(), 0);
        expect.due("condition() of 1", of("x", "y", "1").condition(), 1);
        expect.due("condition() of a zero matrix", of("xy", "0", "0").condition(), 0);
        expect.due("condition() without a matrix", new DixonEliminator().condition(), STATE);
    }

    // ---- promises 26 to 30

    private static void eliminantDegree() {
        expect.due("eliminantDegree(false)", linear().eliminantDegree(false), 1);
        expect.due("eliminantDegree(true)", linear().eliminantDegree(true), 1);
        expect.due("the whole one", partlyExtraneous().eliminantDegree(false), 2);
        expect.due("the reduced one", partlyExtraneous().eliminantDegree(true), 1);
        expect.due("a constant", of("x", "y", "xy").eliminantDegree(false), 0);
        expect.due("of a zero matrix", of("xy", "0", "0").eliminantDegree(true), 0);
        expect.due("without a matrix", new DixonEliminator().eliminantDegree(false), STATE);
        expect.due("without a matrix, reduced", new DixonEliminator().eliminantDegree(true), STATE);
    }

    private static void eliminantIs(String what, DixonEliminator d, boolean reduced, int... terms) {
        for (int e = 0; e <= 48; e++) {
            expect.due("term " + e + " of " + what, d.eliminant(reduced, e), e < terms.length ? terms[e] : 0);
        }
    }

    private static void eliminant() {
        eliminantIs("10 - 5 * t", linear(), false, 10, 26);
        eliminantIs("t - 2", linear(), true, 29, 1);
        eliminantIs("t - t^2", partlyExtraneous(), false, 0, 1, 30);
        eliminantIs("t - 1", partlyExtraneous(), true, 30, 1);
        eliminantIs("-1", of("x", "y", "xy"), false, 30);
        eliminantIs("1 as the reduced -1", of("x", "y", "xy"), true, 1);
        eliminantIs("1 of a zero matrix", of("xy", "0", "0"), false, 1);
        eliminantIs("1 of a zero matrix, reduced", of("xy", "0", "0"), true, 1);
        eliminantIs("-t^2", of("x", "y", "t2xy + 1"), false, 0, 0, 30);
        eliminantIs("1 as the reduced -t^2", of("x", "y", "t2xy + 1"), true, 1);
        DixonEliminator d = linear();
        for (int wrong : new int[] {-1, 49, LOW, HIGH}) {
            expect.due("eliminant(false, " + wrong + ")", d.eliminant(false, wrong), BAD);
            expect.due("eliminant(true, " + wrong + ")", d.eliminant(true, wrong), BAD);
            expect.due("eliminant without a matrix", new DixonEliminator().eliminant(true, wrong), BAD);
        }
        expect.due("eliminant without a matrix", new DixonEliminator().eliminant(false, 0), STATE);
        expect.due("eliminant without a matrix", new DixonEliminator().eliminant(true, 48), STATE);
    }

    private static void eliminantAt() {
        DixonEliminator d = linear();
        for (int t = 0; t < 31; t++) {
            expect.due("10 - 5 * t at " + t, d.eliminantAt(false, t), Math.floorMod(10 - 5 * t, 31));
            expect.due("t - 2 at " + t, d.eliminantAt(true, t), Math.floorMod(t - 2, 31));
        }
        d = partlyExtraneous();
        expect.due("t - t^2 at 0", d.eliminantAt(false, 0), 0);
        expect.due("t - 1 at 0", d.eliminantAt(true, 0), 30);
        expect.due("t - 1 at 1", d.eliminantAt(true, 1), 0);
        for (int wrong : new int[] {-1, 31, LOW, HIGH}) {
            expect.due("eliminantAt(false, " + wrong + ")", d.eliminantAt(false, wrong), BAD);
            expect.due("eliminantAt(true, " + wrong + ")", d.eliminantAt(true, wrong), BAD);
            expect.due("eliminantAt without a matrix", new DixonEliminator().eliminantAt(true, wrong), BAD);
        }
        expect.due("eliminantAt without a matrix", new DixonEliminator().eliminantAt(true, 0), STATE);
    }

    private static void multiplicity() {
        DixonEliminator d = linear();
        expect.due("multiplicity(2)", d.multiplicity(2), 1);
        expect.due("multiplicity(0)", d.multiplicity(0), 0);
        expect.due("multiplicity(29)", d.multiplicity(29), 0);
        d = of("x", "y", "t2xy + 1");
        expect.due("multiplicity(0) of -t^2", d.multiplicity(0), 2);
        expect.due("multiplicity(1) of -t^2", d.multiplicity(1), 0);
        d = of("tx", "ty", "t2xy + 1");
        expect.due("of t^6 it is", d.multiplicity(0), 6);
        expect.due("multiplicity leaves the eliminant", d.eliminantDegree(false), 6);
        expect.due("multiplicity of a constant", of("x", "y", "1").multiplicity(0), 0);
        for (int wrong : new int[] {-1, 31, LOW, HIGH}) {
            expect.due("multiplicity(" + wrong + ")", d.multiplicity(wrong), BAD);
            expect.due("multiplicity without a matrix", new DixonEliminator().multiplicity(wrong), BAD);
        }
        expect.due("multiplicity without a matrix", new DixonEliminator().multiplicity(0), STATE);
    }

    private static void extraneous() {
        expect.due("extraneous()", linear().extraneous(), 0);
        expect.due("0 is extraneous, 1 is not", partlyExtraneous().extraneous(), 1);
        expect.due("0 is extraneous twice", of("x", "y", "t2xy + 1").extraneous(), 1);
        expect.due("two numbers", of("x", "y", "t2xy - xy + 1").extraneous(), 1 << 1 | 1 << 30);
        expect.due("of a constant", of("x", "y", "xy").extraneous(), 0);
        expect.due("extraneous() without a matrix", new DixonEliminator().extraneous(), STATE);
    }

    // ---- promises 31 to 36

    private static void commonRoots() {
        DixonEliminator d = linear();
        for (int t = 0; t < 31; t++) {
            expect.due("commonRoots(" + t + ")", d.commonRoots(t), t == 2 ? 1 : 0);
        }
        for (int wrong : new int[] {-1, 31, LOW, HIGH}) {
            expect.due("commonRoots(" + wrong + ")", d.commonRoots(wrong), BAD);
        }
        d = of("x2 - t", "y2 - 4", "0");
        expect.due("x = 3 or -3, y = 2 or -2", d.commonRoots(9), 4);
        expect.due("x = 0, y = 2 or -2", d.commonRoots(0), 2);
        expect.due("3 is no square", d.commonRoots(3), 0);
        expect.due("without a matrix", of("x", "0", "0").commonRoots(30), 31);
        d.setPrime(5);
        expect.due("all pairs", d.commonRoots(4), 25);
        expect.due("commonRoots(p)", d.commonRoots(5), BAD);
    }

    private static void commonRoot() {
        DixonEliminator d = of("x2 - t", "y2 - 4", "0");
        int[] due = {302, 329, 2802, 2829, NONE, NONE};
        for (int index = 0; index < due.length; index++) {
            expect.due("commonRoot(9, " + index + ")", d.commonRoot(9, index), due[index]);
        }
        expect.due("commonRoot(9, HIGH)", d.commonRoot(9, HIGH), NONE);
        expect.due("commonRoot(9, -1)", d.commonRoot(9, -1), BAD);
        expect.due("commonRoot(9, LOW)", d.commonRoot(9, LOW), BAD);
        expect.due("commonRoot(0, 1)", d.commonRoot(0, 1), 29);
        expect.due("commonRoot(0, 2)", d.commonRoot(0, 2), NONE);
        expect.due("commonRoot(3, 0)", d.commonRoot(3, 0), NONE);
        for (int wrong : new int[] {-1, 31, LOW, HIGH}) {
            expect.due("commonRoot(" + wrong + ", 0)", d.commonRoot(wrong, 0), BAD);
        }
        d.setPrime(7);
        for (int index = 0; index < 49; index++) {
            expect.due("commonRoot(6, " + index + ")", d.commonRoot(6, index), 100 * (index / 7) + index % 7);
        }
        expect.due("commonRoot(6, 49)", d.commonRoot(6, 49), NONE);
        expect.due("commonRoot(7, 0)", d.commonRoot(7, 0), BAD);
    }

    private static void solvable() {
        expect.due("solvable()", linear().solvable(), 4);
        expect.due("solvable() of nothing", new DixonEliminator().solvable(), HIGH);
        expect.due("solvable() of 1", of("1", "x", "y").solvable(), 0);
        expect.due("at both ends", of("x", "y", "t2 + t").solvable(), 1 | 1 << 30);
        DixonEliminator d = new DixonEliminator();
        d.setPrime(5);
        expect.due("solvable() with p = 5", d.solvable(), 31);
        d.plant(0, 0, 0);
        expect.due("solvable() after plant", d.solvable(), 31);
    }

    private static void kernel() {
        DixonEliminator d = linear();
        expect.due("kernel(2)", d.kernel(2), 1);
        expect.due("kernel(3)", d.kernel(3), 0);
        expect.due("of a zero matrix", of("xy", "0", "0").kernel(0), 2);
        expect.due("of four ones of eight", of("t2x2", "t2y2", "t2").kernel(1), 4);
        expect.due("of nothing of eight", of("t2x2", "t2y2", "t2").kernel(0), 8);
        for (int wrong : new int[] {-1, 31, LOW, HIGH}) {
            expect.due("kernel(" + wrong + ")", d.kernel(wrong), BAD);
            expect.due("kernel without a matrix", new DixonEliminator().kernel(wrong), BAD);
        }
        expect.due("kernel without a matrix", new DixonEliminator().kernel(0), STATE);
    }

    private static void recovered() {
        DixonEliminator d = linear();
        expect.due("y from the kernel row (1, 5)", d.recovered(2, true), 5);
        expect.due("x with m = 1", d.recovered(2, false), NONE);
        expect.due("y without a kernel", d.recovered(3, true), NONE);
        // The matrix of -y * a has the kernel row (1, 0), that of a the row (0, 1), which has no 1 as its number 0.
        expect.due("y = 0", of("x", "y", "xy").recovered(7, true), 0);
        expect.due("no row with 1", of("x", "xy", "1").recovered(7, true), NONE);
        expect.due("a kernel of dimension 2", of("xy", "0", "0").recovered(0, true), NONE);
        d = planted();
        expect.due("x of the planted root", d.recovered(3, false), 1);
        expect.due("y of the planted root", d.recovered(3, true), 2);
        for (int wrong : new int[] {-1, 7, 31, LOW, HIGH}) {
            expect.due("recovered(" + wrong + ", false)", d.recovered(wrong, false), BAD);
            expect.due("recovered(" + wrong + ", true)", d.recovered(wrong, true), BAD);
        }
        d = new DixonEliminator();
        expect.due("recovered without a matrix", d.recovered(0, false), STATE);
        expect.due("recovered without a matrix", d.recovered(0, true), STATE);
        expect.due("recovered without a matrix, t = 31", d.recovered(31, true), BAD);
    }

    private static void confirmed() {
        expect.due("with m = 1", linear().confirmed(2), 0);
        DixonEliminator d = planted();
        expect.due("the planted root", d.confirmed(3), 1);
        int roots = 0;
        for (int t = 0; t < 7; t++) {
            int x = d.recovered(t, false);
            int y = d.recovered(t, true);
            boolean found = false;
            for (int index = 0; index < d.commonRoots(t); index++) {
                found = found || d.commonRoot(t, index) == 100 * x + y;
            }
            boolean due = x >= 0 && y >= 0 && found;
            roots += due ? 1 : 0;
            expect.due("confirmed(" + t + ")", d.confirmed(t), due ? 1 : 0);
        }
        expect.holds("some are confirmed", roots > 0);
        for (int wrong : new int[] {-1, 7, LOW, HIGH}) {
            expect.due("confirmed(" + wrong + ")", d.confirmed(wrong), BAD);
        }
        d = new DixonEliminator();
        expect.due("confirmed without a matrix", d.confirmed(0), STATE);
        expect.due("confirmed without a matrix, t = 31", d.confirmed(31), BAD);
    }

    // ---- promises 37 to 39

    private static void undo() {
        DixonEliminator d = new DixonEliminator();
        expect.due("undo() of nothing", d.undo(), STATE);
        for (int change = 1; change <= 11; change++) {
            d.setCoefficient(0, 0, 0, 0, change);
            expect.due("count(4) after " + change, d.count(4), Math.min(change, 8));
        }
        d.type('x');
        for (int left = 7; left >= 0; left--) {
            expect.due("undo()", d.undo(), left);
            expect.due("what it restores", d.coefficient(0, 0, 0, 0), left + 3);
            expect.due("count(4) after it", d.count(4), left);
        }
        expect.due("undo() beyond", d.undo(), STATE);
        expect.due("the last state stays", d.coefficient(0, 0, 0, 0), 3);
        expect.due("the text stays", d.count(3), 1);
        d.setCoefficient(0, 0, 0, 0, 20);
        d.setCoefficient(0, 0, 0, 0, 21);
        expect.due("undo() of a later change", d.undo(), 1);
        d.setCoefficient(0, 0, 0, 0, 22);
        expect.due("undo() of the change after an undo", d.undo(), 1);
        expect.due("it restores 20", d.coefficient(0, 0, 0, 0), 20);
        expect.due("undo()", d.undo(), 0);
        expect.due("it restores 3", d.coefficient(0, 0, 0, 0), 3);
    }

    // The terms and the value at one point, which each of the changes below alters.
    private static long glance(DixonEliminator d) {
        long sum = d.count(0);
        for (int k = 0; k < 3; k++) {
            for (int place = 0; place < 27; place++) {
                sum = 31 * sum + d.coefficient(k, place / 9, place / 3 % 3, place % 3);
            }
        }
        return sum;
    }

    private static void undoEveryChange() {
        DixonEliminator d = linear();
        write(d, "x2 + 1");
        long[] states = new long[9];
        for (int step = 0; step < 9; step++) {
            states[step] = glance(d);
            expect.holds("change " + step + " alters the state", step == 0 || states[step] != states[step - 1]);
            switch (step) {
                case 0: d.read(0); break;
                case 1: d.draw(5, 2, 1, 1, 2); break;
                case 2: d.plant(1, 2, 3); break;
                case 3: d.swap(0, 2); break;
                case 4: d.combine(0, 1, 3, 0, 0, 0); break;
                case 5: d.shift(9); break;
                case 6: d.setCoefficient(1, 1, 1, 1, 6); break;
                case 7: d.setPrime(13); break;
                default: break;
            }
        }
        for (int step = 7; step >= 0; step--) {
            expect.due("undo() of change " + step, d.undo(), step);
            expect.due("the state before change " + step, glance(d), states[step]);
        }
        d.type('y');
        d.clearText();
        d.digest();
        expect.due("questions and texts are no changes", d.undo(), STATE);
        expect.due("the text stays as it is", d.count(3), 0);
    }

    private static void count() {
        DixonEliminator d = of("x2 - t", "y - 4", "xy + x + 1");
        write(d, "abc");
        int[] due = {31, 2, 1, 3, 3, 7};
        for (int what = 0; what < due.length; what++) {
            expect.due("count(" + what + ")", d.count(what), due[what]);
        }
        int pairs = 0;
        for (int t = 0; t < 31; t++) {
            pairs += d.commonRoots(t);
        }
        expect.due("count(6)", d.count(6), pairs);
        expect.due("count(6) of one root", linear().count(6), 1);
        for (int wrong : new int[] {-1, 7, LOW, HIGH}) {
            expect.due("count(" + wrong + ")", d.count(wrong), BAD);
        }
        d = of("t", "y2", "0");
        expect.due("count(1) without x", d.count(1), 0);
        expect.due("count(2) without x", d.count(2), 2);
        d.setPrime(5);
        expect.due("count(6) of all", d.count(6), 125);
    }

    private static long hash(DixonEliminator d) {
        long h = 18404;
        for (int what = 0; what <= 6; what++) {
            h = 31 * h + d.count(what);
        }
        h = 31 * h + d.degreeDrops();
        h = 31 * h + d.solvable();
        h = 31 * h + d.size();
        if (d.size() != STATE) {
            int[] facts = {d.rank(), d.pivotPoint(), d.selected(true), d.selected(false), d.rankDrops(), d.condition(),
                d.extraneous(), d.eliminantDegree(false)};
            for (int fact : facts) {
                h = 31 * h + fact;
            }
            for (int e = 0; e < 49; e++) {
                h = 31 * h + d.eliminant(false, e);
            }
            h = 31 * h + d.eliminantDegree(true);
            for (int e = 0; e < 49; e++) {
                h = 31 * h + d.eliminant(true, e);
            }
            for (int t = 0; t < d.count(0); t++) {
                h = 31 * h + d.confirmed(t);
            }
        }
        return h;
    }

    private static void digest() {
        DixonEliminator[] objects = {new DixonEliminator(), linear(), partlyExtraneous(), planted(),
            of("xy", "0", "0"), of("x2", "x", "t")};
        for (int at = 0; at < objects.length; at++) {
            expect.due("digest() of object " + at, objects[at].digest(), hash(objects[at]));
            write(objects[at], "x2y2 - t");
            objects[at].read(1);
            expect.due("digest() after a change of object " + at, objects[at].digest(), hash(objects[at]));
        }
    }

    // ---- what holds for several promises

    private static void withoutMatrix() {
        for (DixonEliminator d : new DixonEliminator[] {of("x2", "x", "t"), of("y", "1", "ty2")}) {
            expect.due("size()", d.size(), STATE);
            expect.due("entry", d.entry(0, 0, 0), STATE);
            expect.due("entryAt", d.entryAt(0, 0, 0), STATE);
            expect.due("rankAt", d.rankAt(0), STATE);
            expect.due("rank", d.rank(), STATE);
            expect.due("pivotPoint", d.pivotPoint(), STATE);
            expect.due("selected", d.selected(true), STATE);
            expect.due("rankDrops", d.rankDrops(), STATE);
            expect.due("condition", d.condition(), STATE);
            expect.due("eliminantDegree", d.eliminantDegree(true), STATE);
            expect.due("eliminant", d.eliminant(true, 0), STATE);
            expect.due("eliminantAt", d.eliminantAt(true, 0), STATE);
            expect.due("multiplicity", d.multiplicity(0), STATE);
            expect.due("extraneous", d.extraneous(), STATE);
            expect.due("kernel", d.kernel(0), STATE);
            expect.due("recovered", d.recovered(0, true), STATE);
            expect.due("confirmed", d.confirmed(0), STATE);
        }
    }

    private static void orderOfCodes() {
        DixonEliminator d = new DixonEliminator();
        d.setPrime(5);
        expect.due("rankAt(5)", d.rankAt(5), BAD);
        expect.due("eliminantAt(false, 5)", d.eliminantAt(false, 5), BAD);
        expect.due("multiplicity(5)", d.multiplicity(5), BAD);
        expect.due("kernel(5)", d.kernel(5), BAD);
        expect.due("recovered(5, true)", d.recovered(5, true), BAD);
        expect.due("confirmed(5)", d.confirmed(5), BAD);
        expect.due("entryAt(0, 0, 5)", d.entryAt(0, 0, 5), BAD);
        expect.due("commonRoots(5)", d.commonRoots(5), BAD);
        expect.due("shift(5)", d.shift(5), BAD);
        expect.due("degreeAt(0, 0, 5)", d.degreeAt(0, 0, 5), BAD);
        expect.due("changes", d.count(4), 1);
    }

    // The greatest arguments that are allowed.
    private static void lastOfRange() {
        DixonEliminator d = linear();
        expect.due("multiplicity(30)", d.multiplicity(30), 0);
        expect.due("kernel(30)", d.kernel(30), 0);
        expect.due("recovered(30, true)", d.recovered(30, true), NONE);
        expect.due("confirmed(30)", d.confirmed(30), 0);
        expect.due("rankAt(30)", d.rankAt(30), 2);
        expect.due("commonRoot(30, HIGH)", d.commonRoot(30, HIGH), NONE);
        expect.due("eliminantAt(false, 30)", d.eliminantAt(false, 30), 15);
        expect.due("eliminant(false, 48)", d.eliminant(false, 48), 0);
        expect.due("entry(1, 1, 6)", d.entry(1, 1, 6), 0);
        d.shift(3);
        expect.due("multiplicity(30) of a root", d.multiplicity(30), 1);
        expect.due("kernel(30) at a root", d.kernel(30), 1);
        expect.due("recovered(30, true) at a root", d.recovered(30, true), 5);
        expect.due("commonRoot(30, 0) at a root", d.commonRoot(30, 0), 205);
        d = planted();
        d.shift(4);
        expect.due("confirmed(6) at a root", d.confirmed(6), 1);
        expect.due("shift(6)", d.shift(6) > 0 ? 1 : 0, 1);
    }

    // What was found for one state must not be answered for the next.
    private static void resultsFollowChanges() {
        DixonEliminator d = linear();
        expect.due("before", d.rankDrops(), 4);
        expect.due("before", d.solvable(), 4);
        expect.due("before", d.eliminant(true, 0), 29);
        d.shift(1);
        expect.due("after shift", d.rankDrops(), 2);
        expect.due("after shift", d.solvable(), 2);
        expect.due("after shift", d.eliminant(true, 0), 30);
        expect.due("after shift", d.entryAt(1, 0, 0), 1);
        d.undo();
        expect.due("after undo", d.rankDrops(), 4);
        expect.due("after undo", d.solvable(), 4);
        expect.due("after undo", d.eliminant(true, 0), 29);
        d.combine(2, 0, 30, 0, 1, 0);
        expect.due("after combine", d.eliminant(false, 1), 5);
        expect.due("after combine", d.entry(1, 1, 0), 0);
        d.setPrime(5);
        expect.due("after setPrime", d.size(), STATE);
        expect.due("after setPrime", d.solvable(), 31);
        d.undo();
        d.undo();
        expect.due("after undo", d.entry(1, 1, 0), 30);
        d.plant(0, 0, 0);
        expect.due("after plant", d.solvable() & 1, 1);
        d.swap(0, 1);
        expect.due("after swap", d.recovered(0, true), 0);
    }
}
