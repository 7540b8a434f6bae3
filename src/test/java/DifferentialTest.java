import java.util.Random;

/** Long runs of calls, ordinary and wrong ones, each answered alike by the class and by the reference. */
public final class DifferentialTest {
    private static final Expect expect = new Expect("differential");
    private static final int RUNS = 240;
    private static final int CALLS = 480; // a run ends some calls later, but before the 512th
    private static final int[] PRIMES = {5, 7, 11, 13, 17, 19, 23, 29, 31};

    private final Random random;
    private final String run;
    private final DixonEliminator d = new DixonEliminator();
    private final Reference r = new Reference();
    private int left = CALLS;

    private DifferentialTest(int seed) {
        random = new Random(seed);
        run = "run " + seed;
    }

    public static void main(String[] args) {
        for (int seed = 1; seed <= RUNS; seed++) {
            new DifferentialTest(seed).go();
        }
        expect.finish();
    }

    private void go() {
        due("digest()", d.digest(), r.digest());
        while (left > 0) {
            int kind = random.nextInt(100);
            if (kind < 12) {
                start();
            } else if (kind < 34) {
                change();
            } else if (kind < 40) {
                writeText();
            } else if (kind < 44) {
                due("undo()", d.undo(), r.undo());
            } else if (kind < 47) {
                due("digest()", d.digest(), r.digest());
            } else if (kind < 60) {
                askPolynomials();
            } else if (kind < 75) {
                askMatrix();
            } else if (kind < 87) {
                askEliminant();
            } else {
                askRoots();
            }
        }
    }

    private void due(String call, long got, long want) {
        left--;
        expect.due(run + ", " + (CALLS - left) + ": " + call, got, want);
    }

    // ---- arguments: mostly good ones, now and then the neighbours of the range, or far off

    private int within(int first, int last) {
        int kind = random.nextInt(60);
        if (kind == 0) {
            return first - 1;
        }
        if (kind == 1) {
            return last + 1;
        }
        if (kind == 2) {
            int[] far = {Integer.MIN_VALUE, Integer.MAX_VALUE, -1000, 1000, 31, -31, 32, 64, -64};
            return far[random.nextInt(far.length)];
        }
        return first + random.nextInt(last - first + 1);
    }

    private int number() {
        return within(0, r.count(0) - 1);
    }

    private int small() {
        return within(0, 2);
    }

    private boolean either() {
        return random.nextBoolean();
    }

    // ---- changes

    private void start() {
        int kind = random.nextInt(10);
        if (kind < 3) {
            int p = random.nextInt(6) == 0 ? within(-3, 40) : PRIMES[random.nextInt(3 + random.nextInt(7))];
            due("setPrime(" + p + ")", d.setPrime(p), r.setPrime(p));
        }
        int seed = random.nextInt();
        int u = random.nextInt(4) == 0 ? small() : within(1, 2);
        int v = random.nextInt(4) == 0 ? small() : within(1, 2);
        int w = small();
        int thin = random.nextInt(3) > 0 ? 1 : within(1, 9);
        due("draw(" + seed + ", " + u + ", " + v + ", " + w + ", " + thin + ")",
                d.draw(seed, u, v, w, thin), r.draw(seed, u, v, w, thin));
        for (int times = random.nextInt(4); times > 0; times--) {
            plant();
        }
    }

    private void plant() {
        int x = number(), y = number(), t = number();
        due("plant(" + x + ", " + y + ", " + t + ")", d.plant(x, y, t), r.plant(x, y, t));
        if (either()) {
            due("recovered(" + t + ", false)", d.recovered(t, false), r.recovered(t, false));
            due("recovered(" + t + ", true)", d.recovered(t, true), r.recovered(t, true));
            due("confirmed(" + t + ")", d.confirmed(t), r.confirmed(t));
            due("multiplicity(" + t + ")", d.multiplicity(t), r.multiplicity(t));
        }
    }

    private void change() {
        int k = small(), l = small(), i = small(), j = small(), e = small(), c = number();
        switch (random.nextInt(6)) {
            case 0:
                due("swap(" + k + ", " + l + ")", d.swap(k, l), r.swap(k, l));
                break;
            case 1:
                i = random.nextInt(3) * either(i);
                j = random.nextInt(3) * either(j);
                e = random.nextInt(3) * either(e);
                due("combine(" + k + ", " + l + ", " + c + ", " + i + ", " + j + ", " + e + ")",
                        d.combine(k, l, c, i, j, e), r.combine(k, l, c, i, j, e));
                break;
            case 2:
                due("shift(" + c + ")", d.shift(c), r.shift(c));
                break;
            case 3:
                plant();
                break;
            default:
                if (random.nextInt(3) == 0) {
                    c = 0;
                }
                due("setCoefficient(" + k + ", " + i + ", " + j + ", " + e + ", " + c + ")",
                        d.setCoefficient(k, i, j, e, c), r.setCoefficient(k, i, j, e, c));
        }
    }

    // Small factors now and then, so that products stay in range more often.
    private int either(int v) {
        return random.nextInt(3) == 0 ? v : 0;
    }

    // ---- texts

    private void writeText() {
        if (random.nextInt(4) > 0) {
            due("clearText()", d.clearText(), r.clearText());
        }
        String written = random.nextInt(5) == 0 ? anyText() : goodText();
        for (int at = 0; at < written.length() && left > 12; at++) {
            int code = written.charAt(at);
            due("type(" + code + ")", d.type(code), r.type(code));
        }
        if (random.nextInt(8) == 0) {
            int code = within(32, 126);
            due("type(" + code + ")", d.type(code), r.type(code));
        }
        int k = small();
        due("read(" + k + ") of '" + written + "'", d.read(k), r.read(k));
        for (int times = 0; times < 3; times++) {
            int i = small(), j = small(), e = small();
            due("coefficient(" + k + ", " + i + ", " + j + ", " + e + ")",
                    d.coefficient(k, i, j, e), r.coefficient(k, i, j, e));
        }
    }

    private String anyText() {
        String signs = "xyt012 39+-xyt  z,X/:";
        StringBuilder text = new StringBuilder();
        for (int length = random.nextInt(14); length > 0; length--) {
            text.append(signs.charAt(random.nextInt(signs.length())));
        }
        return text.toString();
    }

    private String goodText() {
        StringBuilder text = new StringBuilder();
        int terms = 1 + random.nextInt(5);
        for (int term = 0; term < terms; term++) {
            if (term > 0 || random.nextInt(3) == 0) {
                text.append(space()).append(either() ? '+' : '-').append(space());
            }
            boolean number = either();
            if (number) {
                text.append(random.nextInt(random.nextInt(4) == 0 ? 1000 : 40)).append(space());
            }
            int factors = random.nextInt(4);
            if (!number && factors == 0) {
                factors = 1;
            }
            String letters = new String[] {"xyt", "ytx", "txy", "yxt", "tyx", "xty"}[random.nextInt(6)];
            for (int factor = 0; factor < factors; factor++) {
                text.append(letters.charAt(factor));
                if (either()) {
                    text.append(random.nextInt(3));
                }
                text.append(space());
            }
        }
        return text.toString();
    }

    private String space() {
        return random.nextInt(5) == 0 ? "  ".substring(random.nextInt(2)) : "";
    }

    // ---- questions

    private void askPolynomials() {
        int k = small(), i = small(), j = small(), e = small(), t = number();
        switch (random.nextInt(6)) {
            case 0:
                due("coefficient(" + k + ", " + i + ", " + j + ", " + e + ")",
                        d.coefficient(k, i, j, e), r.coefficient(k, i, j, e));
                break;
            case 1:
                int x = number(), y = number();
                due("value(" + k + ", " + x + ", " + y + ", " + t + ")", d.value(k, x, y, t), r.value(k, x, y, t));
                break;
            case 2:
                due("degree(" + k + ", " + i + ")", d.degree(k, i), r.degree(k, i));
                break;
            case 3:
                due("degreeAt(" + k + ", " + i + ", " + t + ")", d.degreeAt(k, i, t), r.degreeAt(k, i, t));
                break;
            case 4:
                due("degreeDrops()", d.degreeDrops(), r.degreeDrops());
                break;
            default:
                int what = within(0, 6);
                due("count(" + what + ")", d.count(what), r.count(what));
        }
    }

    private void askMatrix() {
        int s = Math.max(r.size(), 1);
        int row = within(0, s - 1), column = within(0, s - 1), e = within(0, 6), t = number();
        boolean rows = either();
        switch (random.nextInt(9)) {
            case 0:
                due("size()", d.size(), r.size());
                break;
            case 1:
                due("entry(" + row + ", " + column + ", " + e + ")", d.entry(row, column, e), r.entry(row, column, e));
                break;
            case 2:
                due("entryAt(" + row + ", " + column + ", " + t + ")",
                        d.entryAt(row, column, t), r.entryAt(row, column, t));
                break;
            case 3:
                due("rankAt(" + t + ")", d.rankAt(t), r.rankAt(t));
                break;
            case 4:
                due("rank()", d.rank(), r.rank());
                break;
            case 5:
                due("pivotPoint()", d.pivotPoint(), r.pivotPoint());
                break;
            case 6:
                due("selected(" + rows + ")", d.selected(rows), r.selected(rows));
                break;
            case 7:
                due("rankDrops()", d.rankDrops(), r.rankDrops());
                break;
            default:
                due("condition()", d.condition(), r.condition());
        }
    }

    private void askEliminant() {
        boolean reduced = either();
        int t = number();
        switch (random.nextInt(5)) {
            case 0:
                due("eliminantDegree(" + reduced + ")", d.eliminantDegree(reduced), r.eliminantDegree(reduced));
                break;
            case 1:
                int e = within(0, either() ? 48 : 6);
                due("eliminant(" + reduced + ", " + e + ")", d.eliminant(reduced, e), r.eliminant(reduced, e));
                break;
            case 2:
                due("eliminantAt(" + reduced + ", " + t + ")", d.eliminantAt(reduced, t), r.eliminantAt(reduced, t));
                break;
            case 3:
                due("multiplicity(" + t + ")", d.multiplicity(t), r.multiplicity(t));
                break;
            default:
                due("extraneous()", d.extraneous(), r.extraneous());
        }
    }

    private void askRoots() {
        int t = number();
        boolean y = either();
        switch (random.nextInt(6)) {
            case 0:
                due("commonRoots(" + t + ")", d.commonRoots(t), r.commonRoots(t));
                break;
            case 1:
                int index = within(0, either() ? 3 : Math.max(0, r.commonRoots(t)));
                due("commonRoot(" + t + ", " + index + ")", d.commonRoot(t, index), r.commonRoot(t, index));
                break;
            case 2:
                due("solvable()", d.solvable(), r.solvable());
                break;
            case 3:
                due("kernel(" + t + ")", d.kernel(t), r.kernel(t));
                break;
            case 4:
                due("recovered(" + t + ", " + y + ")", d.recovered(t, y), r.recovered(t, y));
                break;
            default:
                due("confirmed(" + t + ")", d.confirmed(t), r.confirmed(t));
        }
    }
}
