import java.util.ArrayList;
import java.util.List;

/**
 * Every argument of every method over every field: each one that is allowed is answered as the reference does, the
 * first ones outside on either side and far ones with BAD, whatever the other arguments are.
 */
public final class RangesTest {
    private static final int BAD = -1, STATE = -2;
    private static final int LOW = Integer.MIN_VALUE, HIGH = Integer.MAX_VALUE;
    private static final int WIDEST = 128; // of a wider range only the ends are tried
    private static final int MOST_CALLS = 400; // of an object, before a new one takes its place
    private static final int[][] DEGREES = {{0, 0}, {1, 0}, {0, 2}, {1, 1}, {2, 1}, {1, 2}, {2, 2}};
    private static final Expect expect = new Expect("ranges");

    private interface Call {
        long of(DixonEliminator d, int[] v);
    }

    private interface Due {
        long of(Reference r, int[] v);
    }

    private record Range(int first, int last) {
        boolean holds(int v) {
            return v >= first && v <= last;
        }
    }

    private record Method(String name, boolean change, boolean needsMatrix, List<Range> ranges, Call call, Due due) {
        // Two equal numbers of polynomials are no pair for combine.
        int[] smallest() {
            return name.equals("combine") ? with(ends(false), 1, 1) : ends(false);
        }

        int[] greatest() {
            return name.equals("combine") ? with(ends(true), 1, 1) : ends(true);
        }

        private int[] ends(boolean last) {
            return ranges.stream().mapToInt(range -> last ? range.last() : range.first()).toArray();
        }
    }

    private final int p;
    private final int m;
    private final int n;
    private final int s;
    private final List<Method> methods = new ArrayList<>();
    private DixonEliminator d;
    private Reference r;
    private int calls;

    private RangesTest(int p, int m, int n) {
        this.p = p;
        this.m = m;
        this.n = n;
        renew();
        s = Math.max(r.size(), 0);
        listChanges();
        listQuestions();
        listMatrixQuestions();
    }

    public static void main(String[] args) {
        primes();
        for (int p : Given.PRIMES) {
            for (int[] degrees : DEGREES) {
                new RangesTest(p, degrees[0], degrees[1]).go();
            }
        }
        expect.finish();
    }

    private void renew() {
        d = new DixonEliminator();
        r = new Reference();
        expect.due("setPrime(" + p + ")", d.setPrime(p), r.setPrime(p));
        expect.due("draw", d.draw(4711 + p, m, n, 2, 1), r.draw(4711 + p, m, n, 2, 1));
        calls = 2;
    }

    // ---- the methods and the ranges of their arguments

    private static final Range TRIPLE = new Range(0, 2);

    private Range field() {
        return new Range(0, p - 1);
    }

    // Without a matrix no row and no column is wrong.
    private Range places() {
        return s == 0 ? new Range(LOW, HIGH) : new Range(0, s - 1);
    }

    private void change(String name, Call call, Due due, Range... ranges) {
        methods.add(new Method(name, true, false, List.of(ranges), call, due));
    }

    private void ask(String name, Call call, Due due, Range... ranges) {
        methods.add(new Method(name, false, false, List.of(ranges), call, due));
    }

    private void askMatrix(String name, Call call, Due due, Range... ranges) {
        methods.add(new Method(name, false, true, List.of(ranges), call, due));
    }

    private void listChanges() {
        Range f = field();
        change("read", (d, v) -> d.read(v[0]), (r, v) -> r.read(v[0]), TRIPLE);
        change("setCoefficient", (d, v) -> d.setCoefficient(v[0], v[1], v[2], v[3], v[4]),
                (r, v) -> r.setCoefficient(v[0], v[1], v[2], v[3], v[4]), TRIPLE, TRIPLE, TRIPLE, TRIPLE, f);
        change("draw", (d, v) -> d.draw(v[0], v[1], v[2], v[3], v[4]), (r, v) -> r.draw(v[0], v[1], v[2], v[3], v[4]),
                new Range(LOW, HIGH), TRIPLE, TRIPLE, TRIPLE, new Range(1, 9));
        change("plant", (d, v) -> d.plant(v[0], v[1], v[2]), (r, v) -> r.plant(v[0], v[1], v[2]), f, f, f);
        change("swap", (d, v) -> d.swap(v[0], v[1]), (r, v) -> r.swap(v[0], v[1]), TRIPLE, TRIPLE);
        change("combine", (d, v) -> d.combine(v[0], v[1], v[2], v[3], v[4], v[5]),
                (r, v) -> r.combine(v[0], v[1], v[2], v[3], v[4], v[5]), TRIPLE, TRIPLE, f, TRIPLE, TRIPLE, TRIPLE);
        change("shift", (d, v) -> d.shift(v[0]), (r, v) -> r.shift(v[0]), f);
    }

    private void listQuestions() {
        Range f = field();
        ask("type", (d, v) -> d.type(v[0]), (r, v) -> r.type(v[0]), new Range(32, 126));
        ask("coefficient", (d, v) -> d.coefficient(v[0], v[1], v[2], v[3]),
                (r, v) -> r.coefficient(v[0], v[1], v[2], v[3]), TRIPLE, TRIPLE, TRIPLE, TRIPLE);
        ask("value", (d, v) -> d.value(v[0], v[1], v[2], v[3]), (r, v) -> r.value(v[0], v[1], v[2], v[3]),
                TRIPLE, f, f, f);
        ask("degree", (d, v) -> d.degree(v[0], v[1]), (r, v) -> r.degree(v[0], v[1]), TRIPLE, TRIPLE);
        ask("degreeAt", (d, v) -> d.degreeAt(v[0], v[1], v[2]), (r, v) -> r.degreeAt(v[0], v[1], v[2]),
                TRIPLE, new Range(0, 1), f);
        ask("commonRoots", (d, v) -> d.commonRoots(v[0]), (r, v) -> r.commonRoots(v[0]), f);
        ask("commonRoot", (d, v) -> d.commonRoot(v[0], v[1]), (r, v) -> r.commonRoot(v[0], v[1]),
                f, new Range(0, HIGH));
        ask("count", (d, v) -> d.count(v[0]), (r, v) -> r.count(v[0]), new Range(0, 6));
    }

    private void listMatrixQuestions() {
        Range f = field();
        Range terms = new Range(0, 48);
        askMatrix("entry", (d, v) -> d.entry(v[0], v[1], v[2]), (r, v) -> r.entry(v[0], v[1], v[2]),
                places(), places(), new Range(0, 6));
        askMatrix("entryAt", (d, v) -> d.entryAt(v[0], v[1], v[2]), (r, v) -> r.entryAt(v[0], v[1], v[2]),
                places(), places(), f);
        askMatrix("rankAt", (d, v) -> d.rankAt(v[0]), (r, v) -> r.rankAt(v[0]), f);
        askMatrix("multiplicity", (d, v) -> d.multiplicity(v[0]), (r, v) -> r.multiplicity(v[0]), f);
        askMatrix("kernel", (d, v) -> d.kernel(v[0]), (r, v) -> r.kernel(v[0]), f);
        askMatrix("confirmed", (d, v) -> d.confirmed(v[0]), (r, v) -> r.confirmed(v[0]), f);
        for (boolean flag : new boolean[] {false, true}) {
            askMatrix("eliminant " + flag, (d, v) -> d.eliminant(flag, v[0]), (r, v) -> r.eliminant(flag, v[0]), terms);
            askMatrix("eliminantAt " + flag, (d, v) -> d.eliminantAt(flag, v[0]), (r, v) -> r.eliminantAt(flag, v[0]), f);
            askMatrix("recovered " + flag, (d, v) -> d.recovered(v[0], flag), (r, v) -> r.recovered(v[0], flag), f);
        }
    }

    // ---- the trials

    private void go() {
        for (Method method : methods) {
            renew();
            tryInside(method);
            renew();
            tryOutside(method);
            expect.due("digest() after wrong arguments of " + method.name(), d.digest(), r.digest());
        }
    }

    private static int[] with(int[] arguments, int at, int v) {
        int[] changed = arguments.clone();
        changed[at] = v;
        return changed;
    }

    private String named(Method method, int[] v) {
        StringBuilder text = new StringBuilder("p = " + p + ", s = " + s + ": " + method.name());
        for (int argument : v) {
            text.append(' ').append(argument);
        }
        return text.toString();
    }

    private void tryInside(Method method) {
        for (int[] base : new int[][] {method.smallest(), method.greatest()}) {
            for (int at = 0; at < base.length; at++) {
                Range range = method.ranges().get(at);
                boolean wide = (long) range.last() - range.first() > WIDEST;
                int last = wide ? range.first() : range.last();
                for (int v = range.first(); v <= last; v++) {
                    answerInside(method, with(base, at, v));
                }
                answerInside(method, with(base, at, range.last()));
            }
        }
    }

    private void answerInside(Method method, int[] v) {
        if (method.change() || calls > MOST_CALLS) {
            renew();
        }
        calls += 1;
        if (method.name().equals("read")) {
            Given.write(d, "x");
            r.type('x');
        }
        long got = method.call().of(d, v);
        String name = named(method, v);
        expect.due(name, got, method.due().of(r, v));
        boolean same = method.name().equals("combine") && v[0] == v[1];
        expect.holds(name + " is not BAD", (got == BAD) == same);
        expect.holds(name + " is STATE without a matrix", (got == STATE) == (method.needsMatrix() && s == 0));
    }

    private void tryOutside(Method method) {
        for (int[] base : new int[][] {method.smallest(), method.greatest()}) {
            for (int at = 0; at < base.length; at++) {
                for (int v : outsideOf(method.ranges().get(at))) {
                    answerOutside(method, with(base, at, v));
                }
                for (int other = 0; other < at; other++) {
                    for (int v : nextTo(method.ranges().get(at))) {
                        for (int w : nextTo(method.ranges().get(other))) {
                            answerOutside(method, with(with(base, at, v), other, w));
                        }
                    }
                }
            }
        }
    }

    private void answerOutside(Method method, int[] v) {
        calls += 1;
        if (calls > MOST_CALLS) {
            expect.due("digest() after wrong arguments of " + method.name(), d.digest(), r.digest());
            renew();
        }
        expect.due(named(method, v), method.call().of(d, v), BAD);
    }

    // Sums with great powers of 2 are tried, as they are alike when a number is cut or overflows.
    private static int[] outsideOf(Range range) {
        int[] far = {range.first() - 1, range.first() - 2, range.last() + 1, range.last() + 2, range.last() + 32, LOW,
            LOW + 1, LOW + range.first(), HIGH, HIGH - 1, -range.last() - 1, range.first() + 256, range.first() - 256,
            range.first() + 65536, range.first() - 65536, range.first() + (1 << 30), range.last() - (1 << 30)};
        return outsideAlone(range, far);
    }

    private static int[] nextTo(Range range) {
        return outsideAlone(range, new int[] {range.first() - 1, range.last() + 1});
    }

    private static int[] outsideAlone(Range range, int[] numbers) {
        List<Integer> outside = new ArrayList<>();
        for (int v : numbers) {
            if (!range.holds(v)) {
                outside.add(v);
            }
        }
        return outside.stream().mapToInt(Integer::intValue).toArray();
    }

    // The prime numbers are no range: each number around them is tried.
    private static void primes() {
        DixonEliminator d = Given.linear();
        int before = 31;
        long digest = d.digest();
        for (int p = -20; p <= 100; p++) {
            boolean prime = p >= 5 && p <= 31;
            for (int q = 2; q < p; q++) {
                prime = prime && p % q != 0;
            }
            expect.due("setPrime(" + p + ")", d.setPrime(p), prime ? before : BAD);
            before = prime ? p : before;
            digest = prime ? d.digest() : digest;
            expect.due("count(0) after setPrime(" + p + ")", d.count(0), before);
        }
        expect.due("digest() after the last prime number", d.digest(), digest);
        for (int p : new int[] {LOW, LOW + 5, LOW + 31, HIGH, -5, -31, 261, 287, 65536 + 31, (1 << 30) + 7}) {
            expect.due("setPrime(" + p + ")", d.setPrime(p), BAD);
        }
        expect.due("count(0) after all", d.count(0), 31);
    }
}
