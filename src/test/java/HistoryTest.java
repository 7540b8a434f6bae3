import java.util.ArrayList;
import java.util.List;

/** The remembered states from none to eight, one past eight and many past; every kind of change, also without effect. */
public final class HistoryTest {
    private static final int STATE = -2, FULL = -3;
    private static final Expect expect = new Expect("history");

    private interface Call {
        long of(DixonEliminator d);
    }

    private record Change(String name, Call call) {
    }

    public static void main(String[] args) {
        empty();
        one();
        eachLength();
        wrapsAround();
        everyChangeAtEveryLength();
        idleChanges();
        whatIsNoChange();
        refusedWhenFull();
        primesAreRestored();
        resultsAreRestored();
        stateBeforeIsForgotten();
        lastOfAllCalls();
        objectsAreApart();
        expect.finish();
    }

    private static void mark(DixonEliminator d, int number) {
        d.setCoefficient(0, 0, 0, 0, number);
    }

    private static int marked(DixonEliminator d) {
        return d.coefficient(0, 0, 0, 0);
    }

    // ---- how many states are remembered

    private static void empty() {
        DixonEliminator d = new DixonEliminator();
        long digest = d.digest();
        expect.due("count(4) of a new object", d.count(4), 0);
        for (int times = 0; times < 3; times++) {
            expect.due("undo() of a new object", d.undo(), STATE);
            expect.due("digest() after it", d.digest(), digest);
        }
        mark(d, 9);
        expect.due("undo() after one change", d.undo(), 0);
        expect.due("undo() of no more", d.undo(), STATE);
        expect.due("digest() after it", d.digest(), digest);
    }

    private static void one() {
        DixonEliminator d = new DixonEliminator();
        for (int times = 1; times <= 20; times++) {
            mark(d, times);
            expect.due("count(4) of one change", d.count(4), 1);
            expect.due("undo() of one change", d.undo(), 0);
            expect.due("the state before it", marked(d), 0);
            expect.due("undo() of no more", d.undo(), STATE);
        }
    }

    // With so many changes the latest eight at most can be undone, the latest one first.
    private static void eachLength() {
        for (int changes = 0; changes <= 30; changes++) {
            DixonEliminator d = new DixonEliminator();
            for (int number = 1; number <= changes; number++) {
                mark(d, number);
                expect.due("count(4) after change " + number, d.count(4), Math.min(number, 8));
            }
            int held = Math.min(changes, 8);
            for (int left = held - 1; left >= 0; left--) {
                String name = "of " + changes + " changes, " + left + " left: ";
                expect.due(name + "undo()", d.undo(), left);
                expect.due(name + "count(4)", d.count(4), left);
                expect.due(name + "the state", marked(d), changes - held + left);
            }
            expect.due("of " + changes + " changes, undo() of no more", d.undo(), STATE);
            expect.due("of " + changes + " changes, the last state", marked(d), changes - held);
        }
    }

    // Changes and undos in turn, against a list of what has to be remembered.
    private static void wrapsAround() {
        DixonEliminator d = new DixonEliminator();
        List<Integer> remembered = new ArrayList<>();
        int present = 0;
        int[] turns = {3, -1, 7, -2, 1, -8, -1, 9, -8, 8, -3, 3, -3, 12, -7, 2, -4, 20, -9, 5, -2};
        for (int turn : turns) {
            for (int step = 0; step < Math.abs(turn); step++) {
                if (turn > 0) {
                    remembered.add(present);
                    if (remembered.size() > 8) {
                        remembered.remove(0);
                    }
                    present = (present + 1) % 31;
                    mark(d, present);
                } else if (remembered.isEmpty()) {
                    expect.due("undo() of no more", d.undo(), STATE);
                } else {
                    present = remembered.remove(remembered.size() - 1);
                    expect.due("undo()", d.undo(), remembered.size());
                }
                expect.due("the state", marked(d), present);
                expect.due("count(4)", d.count(4), remembered.size());
            }
        }
    }

    // ---- every kind of change

    private static List<Change> changes() {
        List<Change> list = new ArrayList<>();
        list.add(new Change("read(0)", d -> d.read(0)));
        list.add(new Change("setCoefficient", d -> d.setCoefficient(2, 2, 2, 2, 3)));
        list.add(new Change("plant", d -> d.plant(1, 3, 2)));
        list.add(new Change("swap", d -> d.swap(0, 2)));
        list.add(new Change("combine", d -> d.combine(0, 1, 4, 0, 0, 0)));
        list.add(new Change("shift", d -> d.shift(3)));
        list.add(new Change("draw", d -> d.draw(99, 2, 1, 2, 1)));
        list.add(new Change("setPrime(29)", d -> d.setPrime(29)));
        return list;
    }

    private static List<Long> look(DixonEliminator d) {
        List<Long> seen = new ArrayList<>();
        seen.add((long) d.count(0));
        for (int q = 0; q < 81; q++) {
            seen.add((long) d.coefficient(q / 27, q / 9 % 3, q / 3 % 3, q % 3));
        }
        return seen;
    }

    // The change comes when so many can be undone, and is undone together with all that came before.
    private static void everyChangeAtEveryLength() {
        for (Change change : changes()) {
            for (int before = 0; before <= 9; before++) {
                DixonEliminator d = new DixonEliminator();
                prepare(d);
                for (int number = 1; number <= 8; number++) {
                    d.undo();
                }
                prepareFor(d, before);
                tryChange(change, d, before);
            }
        }
    }

    // The polynomials that stand when the earliest states are lost.
    private static void prepare(DixonEliminator d) {
        Given.put(d, 0, "x - t");
        Given.put(d, 1, "x + y - 5");
        Given.put(d, 2, "xy - 10");
        for (int number = 0; number < 8; number++) {
            d.swap(0, 0);
        }
        Given.write(d, "2x2 + 3t");
    }

    private static void prepareFor(DixonEliminator d, int before) {
        for (int number = 1; number <= before; number++) {
            mark(d, number);
        }
    }

    private static void tryChange(Change change, DixonEliminator d, int before) {
        String name = change.name() + " after " + before + " changes";
        List<Long> present = look(d);
        expect.holds(name + " succeeds", change.call().of(d) >= 0);
        expect.holds(name + " alters the state", !look(d).equals(present));
        int held = Math.min(before + 1, 8);
        expect.due(name + ", count(4)", d.count(4), held);
        expect.due(name + ", undo()", d.undo(), held - 1);
        expect.holds(name + ", undo() restores the state", look(d).equals(present));
        for (int left = held - 2; left >= 0; left--) {
            expect.due(name + ", undo() of the changes before", d.undo(), left);
            expect.due(name + ", the state before", marked(d), before - held + 1 + left);
        }
        expect.due(name + ", undo() of no more", d.undo(), STATE);
    }

    // A change by which everything stays the same is recorded too, and drops the oldest state.
    private static void idleChanges() {
        List<Change> list = new ArrayList<>();
        list.add(new Change("setCoefficient to the same", d -> d.setCoefficient(0, 1, 0, 0, 1)));
        list.add(new Change("read of the same", d -> d.read(0)));
        list.add(new Change("plant where a root is", d -> d.plant(3, 7, 0)));
        list.add(new Change("swap of one with itself", d -> d.swap(1, 1)));
        list.add(new Change("swap of two that are equal", d -> d.swap(0, 1)));
        list.add(new Change("combine with the factor 0", d -> d.combine(0, 1, 0, 0, 0, 0)));
        list.add(new Change("combine with 0 and all too great", d -> d.combine(1, 0, 0, 2, 2, 2)));
        list.add(new Change("combine with nothing", d -> d.combine(0, 2, 30, 2, 2, 2)));
        list.add(new Change("shift(0)", d -> d.shift(0)));
        list.add(new Change("shift without t", d -> d.shift(30)));
        for (Change change : list) {
            tryIdle(change, Given.of("x - 3", "x - 3", "0"), "x - 3", 3);
        }
        tryIdle(new Change("setPrime of the same", d -> d.setPrime(31)), Given.of("0", "0", "0"), "", 3);
        tryIdle(new Change("draw of nothing", d -> d.draw(1, 0, 0, 0, 9)), nothing(), "", 8);
        DixonEliminator d = new DixonEliminator();
        d.draw(5, 2, 2, 2, 1);
        tryIdle(new Change("draw of the same", x -> x.draw(5, 2, 2, 2, 1)), d, "", 1);
    }

    private static DixonEliminator nothing() {
        DixonEliminator d = new DixonEliminator();
        for (int times = 0; times < 12; times++) {
            expect.due("draw of nothing", d.draw(1, 0, 0, 0, 9), 0);
        }
        return d;
    }

    private static void tryIdle(Change change, DixonEliminator d, String text, int before) {
        Given.write(d, text);
        List<Long> present = look(d);
        for (int times = 1; times <= 9; times++) {
            expect.holds(change.name() + " succeeds", change.call().of(d) >= 0);
            expect.due(change.name() + ", count(4)", d.count(4), Math.min(before + times, 8));
        }
        expect.holds(change.name() + " has no effect", look(d).equals(present));
        for (int left = 7; left >= 0; left--) {
            expect.due(change.name() + ", undo()", d.undo(), left);
        }
        expect.holds(change.name() + ", undone, has no effect", look(d).equals(present));
        expect.due(change.name() + ", undo() of no more", d.undo(), STATE);
    }

    // ---- what is not recorded

    private static void whatIsNoChange() {
        DixonEliminator d = Given.linear();
        d.type('x');
        d.clearText();
        d.type('?');
        expect.due("read of a wrong text", d.read(0), -10);
        expect.due("setPrime(4)", d.setPrime(4), -1);
        expect.due("swap(0, 3)", d.swap(0, 3), -1);
        expect.due("combine beyond 2", d.combine(0, 2, 1, 2, 2, 2), FULL);
        d.digest();
        expect.due("count(4)", d.count(4), 3);
        expect.due("undo()", d.undo(), 2);
        expect.due("undo() is none either", d.count(4), 2);
        expect.due("it takes the last one back", d.count(5), 4);
    }

    // If a refused call were recorded, the oldest of eight states would be lost.
    private static void refusedWhenFull() {
        DixonEliminator d = new DixonEliminator();
        for (int number = 1; number <= 8; number++) {
            mark(d, number);
        }
        Given.write(d, "x+");
        expect.due("read too early", d.read(0), -12);
        expect.due("read(3)", d.read(3), -1);
        expect.due("setPrime(32)", d.setPrime(32), -1);
        expect.due("setCoefficient to 31", d.setCoefficient(0, 0, 0, 0, 31), -1);
        expect.due("draw with thin = 10", d.draw(0, 0, 0, 0, 10), -1);
        expect.due("plant(0, 0, 31)", d.plant(0, 0, 31), -1);
        expect.due("swap(3, 3)", d.swap(3, 3), -1);
        expect.due("combine(2, 2, ..)", d.combine(2, 2, 1, 0, 0, 0), -1);
        expect.due("shift(31)", d.shift(31), -1);
        d.setCoefficient(1, 2, 0, 0, 1);
        expect.due("combine beyond x^2", d.combine(0, 1, 1, 1, 0, 0), FULL);
        expect.due("count(4)", d.count(4), 8);
        for (int left = 7; left >= 0; left--) {
            expect.due("undo()", d.undo(), left);
            expect.due("the state", marked(d), left + 1);
        }
    }

    // ---- what is restored

    private static void primesAreRestored() {
        DixonEliminator d = new DixonEliminator();
        int[] primes = {5, 7, 11, 13, 17, 19, 23, 29, 31};
        int[] before = {31, 5, 7, 11, 13, 17, 19, 23, 29};
        for (int at = 0; at < primes.length; at++) {
            expect.due("setPrime(" + primes[at] + ")", d.setPrime(primes[at]), before[at]);
        }
        for (int at = 8; at >= 1; at--) {
            expect.due("p before undo()", d.count(0), primes[at]);
            expect.due("undo()", d.undo(), at - 1);
            expect.due("p after undo()", d.count(0), before[at]);
            expect.due("p is BAD", d.shift(before[at]), -1);
        }
        expect.due("undo() of no more", d.undo(), STATE);
        expect.due("the first prime number is lost", d.count(0), 5);
    }

    // After undo all answers are those of the state that is restored, not of the one that was left.
    private static void resultsAreRestored() {
        DixonEliminator d = new DixonEliminator();
        Given.put(d, 1, "xy - t");
        Given.put(d, 2, "y2 + 3");
        Given.write(d, "2x2 + 3t");
        List<Long> seen = new ArrayList<>();
        List<Change> changes = changes();
        seen.add(withoutHistory(d));
        for (Change change : changes) {
            expect.holds(change.name() + " succeeds", change.call().of(d) >= 0);
            seen.add(withoutHistory(d));
            expect.holds(change.name() + " is seen", !seen.get(seen.size() - 1).equals(seen.get(seen.size() - 2)));
        }
        for (int at = changes.size() - 1; at >= 0; at--) {
            d.undo();
            expect.due("what is seen before " + changes.get(at).name(), withoutHistory(d), seen.get(at));
        }
    }

    private static long withoutHistory(DixonEliminator d) {
        long h = 0;
        for (int t = 0; t < 2; t++) {
            h = 31 * h + d.commonRoots(t);
            h = 31 * h + d.rankAt(t);
            h = 31 * h + d.eliminantAt(false, t);
            h = 31 * h + d.eliminantAt(true, t);
            h = 31 * h + d.kernel(t);
            h = 31 * h + d.value(0, 3, 2, t);
            h = 31 * h + d.entryAt(0, 1, t);
        }
        h = 31 * h + d.selected(true);
        h = 31 * h + d.selected(false);
        h = 31 * h + d.eliminantDegree(false);
        h = 31 * h + d.degreeDrops();
        h = 31 * h + d.extraneous();
        return 31 * h + d.count(6);
    }

    private record State(int p, String f, String g, String h) {
        void enter(DixonEliminator d) {
            d.setPrime(p);
            Given.put(d, 0, f);
            Given.put(d, 1, g);
            Given.put(d, 2, h);
        }
    }

    private static final State[] STATES = {
        new State(31, "t2x2 - t2", "t2y2 - t2", "t2x2y2 + t2"),
        new State(7, "t2x - tx", "t2y - 5ty + 6y", "t2 - 9t + 20"),
        new State(31, "x2y2", "0", "0"),
        new State(31, "x - t", "y - 5", "xy - 10"),
        new State(5, "x2 - t", "x + t2", "3"),
        new State(31, "x", "y", "txy + t - 1"),
        new State(11, "x + txy", "y", "1"),
        new State(31, "tx", "y", "1"),
        new State(29, "x2y + x - t", "x2 + y - 1", "xy + 3 - t2"),
    };

    // From each state to each other one and back: no answer may be left from the state before.
    private static void stateBeforeIsForgotten() {
        for (State first : STATES) {
            for (State second : STATES) {
                DixonEliminator d = new DixonEliminator();
                first.enter(d);
                List<Long> before = answers(d);
                second.enter(d);
                DixonEliminator fresh = new DixonEliminator();
                second.enter(fresh);
                expect.holds("from " + first + " to " + second, answers(d).equals(answers(fresh)));
                for (int times = 0; times < 4; times++) {
                    d.undo();
                }
                expect.holds("from " + second + " back to " + first, answers(d).equals(before));
            }
        }
    }

    private static List<Long> answers(DixonEliminator d) {
        List<Long> seen = new ArrayList<>();
        int[] facts = {d.condition(), d.pivotPoint(), d.rank(), d.rankDrops(), d.selected(true), d.selected(false),
            d.extraneous(), d.eliminantDegree(false), d.eliminantDegree(true), d.solvable(), d.degreeDrops(), d.size(),
            d.count(1), d.count(2), d.count(5), d.count(6), d.entry(1, 0, 1)};
        for (int fact : facts) {
            seen.add((long) fact);
        }
        for (int t = 0; t < 5; t++) {
            int[] here = {d.rankAt(t), d.kernel(t), d.recovered(t, false), d.recovered(t, true), d.confirmed(t),
                d.multiplicity(t), d.commonRoots(t), d.eliminantAt(false, t), d.eliminantAt(true, t), d.entryAt(0, 1, t)};
            for (int fact : here) {
                seen.add((long) fact);
            }
        }
        return seen;
    }

    // The answers are promised up to the 512th call.
    private static void lastOfAllCalls() {
        DixonEliminator d = new DixonEliminator();
        for (int call = 1; call <= 492; call++) {
            d.setCoefficient(0, 0, 0, 0, call % 31);
        }
        expect.due("call 493, count(4)", d.count(4), 8);
        for (int left = 7; left >= 0; left--) {
            int number = 492 - 8 + left;
            expect.due("call, undo()", d.undo(), left);
            expect.due("call, the state", marked(d), number % 31);
        }
        expect.due("call 510, undo()", d.undo(), STATE);
        expect.due("call 511, swap(0, 1)", d.swap(0, 1), 1);
        expect.due("call 512, coefficient", d.coefficient(1, 0, 0, 0), 484 % 31);
    }

    private static void objectsAreApart() {
        DixonEliminator first = Given.linear();
        long digest = first.digest();
        DixonEliminator second = new DixonEliminator();
        second.setPrime(5);
        second.draw(3, 2, 2, 2, 1);
        second.type('y');
        second.digest();
        expect.due("digest() of another object", first.digest(), digest);
        expect.due("undo() of another object", first.undo(), 2);
        expect.due("count(4) of this one", second.count(4), 2);
        expect.due("count(3) of this one", second.count(3), 1);
        expect.due("digest() of a new object", new DixonEliminator().digest(), new Reference().digest());
    }
}
