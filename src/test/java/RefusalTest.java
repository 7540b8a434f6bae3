import java.util.ArrayList;
import java.util.List;

/**
 * Calls that are refused: which code they answer with where several apply, and that the object goes on as one that was
 * never asked: the same polynomials, text, changes that can be undone, and states behind them.
 */
public final class RefusalTest {
    private static final int BAD = -1, STATE = -2, FULL = -3, NONE = -9;
    private static final int LOW = Integer.MIN_VALUE, HIGH = Integer.MAX_VALUE;
    private static final int ROW = 100; // how many refused calls one object has to bear
    private static final Expect expect = new Expect("refusals");

    private interface Call {
        long of(DixonEliminator d);
    }

    private interface Start {
        DixonEliminator make();
    }

    private record Refused(String name, int code, Call call) {
    }

    private final String title;
    private final Start start;
    private final List<Long> due;
    private final List<Refused> calls = new ArrayList<>();

    private RefusalTest(String title, Start start) {
        this.title = title;
        this.start = start;
        due = traceOf(start.make());
    }

    public static void main(String[] args) {
        RefusalTest fresh = new RefusalTest("a new object", DixonEliminator::new);
        fresh.addWrongArguments(31);
        fresh.addWithoutMatrix(31);
        fresh.add("undo", STATE, d -> d.undo());
        fresh.add("read of nothing", -10, d -> d.read(1));
        fresh.tryAll();

        RefusalTest flat = new RefusalTest("no matrix, p = 5", RefusalTest::withoutMatrix);
        flat.addWrongArguments(5);
        flat.addWithoutMatrix(5);
        flat.addFault(-13);
        flat.tryAll();

        RefusalTest full = new RefusalTest("all is full", RefusalTest::filled);
        full.addWrongArguments(29);
        full.addWithMatrix(8, 29);
        full.addFullText();
        full.addTooGreatExponents();
        full.addFault(-70);
        full.tryAll();

        RefusalTest small = new RefusalTest("the smallest matrix", Given::linear);
        small.addWrongArguments(31);
        small.addWithMatrix(2, 31);
        small.add("read of nothing", -10, d -> d.read(0));
        small.add("x where m is 1", NONE, d -> d.recovered(2, false));
        small.add("y without a kernel", NONE, d -> d.recovered(3, true));
        small.add("a root beyond the last one", NONE, d -> d.commonRoot(2, 1));
        small.tryAll();
        expect.finish();
    }

    // ---- the states

    private static DixonEliminator withoutMatrix() {
        DixonEliminator d = Given.over(5, "x2 + 3t", "4tx - 1", "t2 + 2");
        Given.write(d, "y2+");
        d.undo();
        return d;
    }

    // Eight changes can be undone, the oldest of nine being lost, and the text has 60 characters and ends too early.
    private static DixonEliminator filled() {
        DixonEliminator d = new DixonEliminator();
        d.setPrime(29);
        d.draw(7, 2, 2, 2, 1);
        d.plant(1, 2, 3);
        d.shift(4);
        d.swap(0, 2);
        Given.put(d, 1, "x2y + 3t");
        d.combine(2, 1, 5, 0, 1, 1);
        d.setCoefficient(0, 2, 2, 2, 17);
        d.plant(28, 28, 28);
        Given.write(d, " x2y - 3xt + 17 y2 - 999 + 12t2y                           -");
        return d;
    }

    // ---- what can be seen of an object until nothing of it is left

    private static List<Long> traceOf(DixonEliminator d) {
        List<Long> trace = new ArrayList<>();
        addPolynomials(trace, d);
        addState(trace, d);
        // A text is seen by what follows from it alone, with what is typed behind it or without.
        Given.append(d, "7");
        trace.add((long) d.count(3));
        trace.add((long) d.read(1));
        addPolynomials(trace, d);
        for (int left = d.count(4); left >= 0; left--) {
            trace.add((long) d.undo());
            addState(trace, d);
        }
        trace.add((long) d.clearText());
        return trace;
    }

    private static void addPolynomials(List<Long> trace, DixonEliminator d) {
        for (int q = 0; q < 81; q++) {
            trace.add((long) d.coefficient(q / 27, q / 9 % 3, q / 3 % 3, q % 3));
        }
    }

    private static void addState(List<Long> trace, DixonEliminator d) {
        trace.add(d.digest());
        trace.add((long) d.count(4));
        for (int k = 0; k < 3; k++) {
            trace.add((long) d.value(k, 1, 1, 1));
            trace.add((long) d.value(k, 2, 3, 4));
            trace.add((long) d.value(k, 4, 2, 3));
        }
    }

    private void add(String name, int code, Call call) {
        calls.add(new Refused(name, code, call));
    }

    // What is seen takes some 300 calls, and what an object answers is promised for 512.
    private void tryAll() {
        for (int first = 0; first < calls.size(); first += ROW) {
            tryEach(calls.subList(first, Math.min(first + ROW, calls.size())));
        }
    }

    private void tryEach(List<Refused> row) {
        DixonEliminator all = start.make();
        for (Refused refused : row) {
            String name = title + ": " + refused.name();
            DixonEliminator d = start.make();
            expect.due(name, refused.call().of(d), refused.code());
            expect.due(name + ", again", refused.call().of(d), refused.code());
            expect.holds(name + " changes nothing", traceOf(d).equals(due));
            refused.call().of(all);
        }
        expect.holds(title + ": all refused calls together change nothing", traceOf(all).equals(due));
    }

    // ---- the refused calls

    // BAD is the first code: it stands whatever else is wrong, and whether there is a matrix or not.
    private void addWrongArguments(int p) {
        for (int wrong : new int[] {LOW, -1, HIGH}) {
            addWrongChanges(wrong);
            addWrongQuestions(wrong);
        }
        for (int wrong : new int[] {4, 6, 9, 37, 0, 1, 2, 3}) {
            add("setPrime(" + wrong + ")", BAD, d -> d.setPrime(wrong));
        }
        add("type(31)", BAD, d -> d.type(31));
        add("type(127)", BAD, d -> d.type(127));
        add("draw with thin = 0", BAD, d -> d.draw(1, 2, 2, 2, 0));
        add("draw with thin = 10", BAD, d -> d.draw(1, 2, 2, 2, 10));
        addWrongChanges(3);
        addBeyondField(p);
        for (int k = 0; k < 3; k++) {
            int same = k;
            add("combine of " + k + " with itself", BAD, d -> d.combine(same, same, 1, 0, 0, 0));
            add("combine of " + k + " with itself, beyond 2", BAD, d -> d.combine(same, same, 1, 2, 2, 2));
            add("combine of " + k + " with itself, times 0", BAD, d -> d.combine(same, same, 0, 0, 0, 0));
        }
    }

    private void addWrongChanges(int wrong) {
        add("read(" + wrong + ")", BAD, d -> d.read(wrong));
        add("setCoefficient with k = " + wrong, BAD, d -> d.setCoefficient(wrong, 0, 0, 0, 1));
        add("setCoefficient with i = " + wrong, BAD, d -> d.setCoefficient(0, wrong, 0, 0, 1));
        add("setCoefficient with j = " + wrong, BAD, d -> d.setCoefficient(0, 0, wrong, 0, 1));
        add("setCoefficient with e = " + wrong, BAD, d -> d.setCoefficient(0, 0, 0, wrong, 1));
        add("draw with u = " + wrong, BAD, d -> d.draw(1, wrong, 2, 2, 1));
        add("draw with v = " + wrong, BAD, d -> d.draw(1, 2, wrong, 2, 1));
        add("draw with w = " + wrong, BAD, d -> d.draw(1, 2, 2, wrong, 1));
        add("swap with k = " + wrong, BAD, d -> d.swap(wrong, 1));
        add("swap with l = " + wrong, BAD, d -> d.swap(1, wrong));
        add("combine with k = " + wrong, BAD, d -> d.combine(wrong, 0, 1, 2, 2, 2));
        add("combine with l = " + wrong, BAD, d -> d.combine(0, wrong, 1, 2, 2, 2));
        add("combine with i = " + wrong, BAD, d -> d.combine(0, 1, 1, wrong, 2, 2));
        add("combine with j = " + wrong, BAD, d -> d.combine(0, 1, 1, 2, wrong, 2));
        add("combine with e = " + wrong, BAD, d -> d.combine(0, 1, 1, 2, 2, wrong));
        add("value with k = " + wrong, BAD, d -> d.value(wrong, 0, 0, 0));
        add("degree with k = " + wrong, BAD, d -> d.degree(wrong, 0));
        add("degree with variable = " + wrong, BAD, d -> d.degree(0, wrong));
        add("degreeAt with k = " + wrong, BAD, d -> d.degreeAt(wrong, 0, 0));
        add("degreeAt with variable = " + wrong, BAD, d -> d.degreeAt(0, wrong, 0));
        add("degreeAt of t", BAD, d -> d.degreeAt(0, 2, 0));
        add("coefficient with i = " + wrong, BAD, d -> d.coefficient(0, wrong, 0, 0));
    }

    private void addWrongQuestions(int wrong) {
        add("type(" + wrong + ")", BAD, d -> d.type(wrong));
        add("setPrime(" + wrong + ")", BAD, d -> d.setPrime(wrong));
        add("draw with thin = " + wrong, BAD, d -> d.draw(1, 2, 2, 2, wrong));
        addBeyondField(wrong);
        add("entry with e = " + wrong, BAD, d -> d.entry(0, 0, wrong));
        add("entry with all = " + wrong, BAD, d -> d.entry(wrong, wrong, wrong));
        add("entryAt with all = " + wrong, BAD, d -> d.entryAt(wrong, wrong, wrong));
        add("eliminant with e = " + wrong, BAD, d -> d.eliminant(false, wrong));
        add("reduced eliminant with e = " + wrong, BAD, d -> d.eliminant(true, wrong));
        add("count(" + wrong + ")", BAD, d -> d.count(wrong));
    }

    private void addBeyondField(int wrong) {
        add("setCoefficient to " + wrong, BAD, d -> d.setCoefficient(0, 0, 0, 0, wrong));
        add("plant with x = " + wrong, BAD, d -> d.plant(wrong, 1, 1));
        add("plant with y = " + wrong, BAD, d -> d.plant(1, wrong, 1));
        add("plant with t = " + wrong, BAD, d -> d.plant(1, 1, wrong));
        add("combine with c = " + wrong, BAD, d -> d.combine(0, 1, wrong, 2, 2, 2));
        add("shift(" + wrong + ")", BAD, d -> d.shift(wrong));
        add("value with x = " + wrong, BAD, d -> d.value(0, wrong, 0, 0));
        add("value with y = " + wrong, BAD, d -> d.value(0, 0, wrong, 0));
        add("value with t = " + wrong, BAD, d -> d.value(0, 0, 0, wrong));
        add("degreeAt with t = " + wrong, BAD, d -> d.degreeAt(0, 0, wrong));
        add("entryAt with t = " + wrong, BAD, d -> d.entryAt(0, 0, wrong));
        add("rankAt(" + wrong + ")", BAD, d -> d.rankAt(wrong));
        add("eliminantAt(" + wrong + ")", BAD, d -> d.eliminantAt(false, wrong));
        add("reduced eliminantAt(" + wrong + ")", BAD, d -> d.eliminantAt(true, wrong));
        add("multiplicity(" + wrong + ")", BAD, d -> d.multiplicity(wrong));
        add("commonRoots(" + wrong + ")", BAD, d -> d.commonRoots(wrong));
        add("commonRoot with t = " + wrong, BAD, d -> d.commonRoot(wrong, 0));
        add("commonRoot with t = " + wrong + ", no index", BAD, d -> d.commonRoot(wrong, -1));
        add("commonRoot with t = " + wrong + ", too great an index", BAD, d -> d.commonRoot(wrong, HIGH));
        add("kernel(" + wrong + ")", BAD, d -> d.kernel(wrong));
        add("recovered x with t = " + wrong, BAD, d -> d.recovered(wrong, false));
        add("recovered y with t = " + wrong, BAD, d -> d.recovered(wrong, true));
        add("confirmed(" + wrong + ")", BAD, d -> d.confirmed(wrong));
    }

    // STATE comes before NONE, and a row or a column is only wrong where there is a matrix.
    private void addWithoutMatrix(int p) {
        int t = p - 1;
        for (int place : new int[] {LOW, -1, 0, 1, 8, HIGH}) {
            add("entry of row " + place, STATE, d -> d.entry(place, 0, 6));
            add("entry of column " + place, STATE, d -> d.entry(0, place, 0));
            add("entryAt of row " + place, STATE, d -> d.entryAt(place, 0, t));
            add("entryAt of column " + place, STATE, d -> d.entryAt(0, place, 0));
            add("entry of row " + place + " with e = 7", BAD, d -> d.entry(place, 0, 7));
            add("entryAt of row " + place + " with t = p", BAD, d -> d.entryAt(place, 0, p));
        }
        add("size", STATE, d -> d.size());
        add("rank", STATE, d -> d.rank());
        add("pivotPoint", STATE, d -> d.pivotPoint());
        add("selected rows", STATE, d -> d.selected(true));
        add("selected columns", STATE, d -> d.selected(false));
        add("rankDrops", STATE, d -> d.rankDrops());
        add("condition", STATE, d -> d.condition());
        add("extraneous", STATE, d -> d.extraneous());
        add("eliminant with e = 49", BAD, d -> d.eliminant(true, 49));
        for (boolean flag : new boolean[] {false, true}) {
            add("eliminantDegree", STATE, d -> d.eliminantDegree(flag));
            add("eliminant", STATE, d -> d.eliminant(flag, 48));
            add("eliminantAt", STATE, d -> d.eliminantAt(flag, t));
            add("recovered at 0", STATE, d -> d.recovered(0, flag));
            add("recovered at p - 1", STATE, d -> d.recovered(t, flag));
        }
        for (int at : new int[] {0, t}) {
            add("rankAt", STATE, d -> d.rankAt(at));
            add("multiplicity", STATE, d -> d.multiplicity(at));
            add("kernel", STATE, d -> d.kernel(at));
            add("confirmed", STATE, d -> d.confirmed(at));
        }
    }

    private void addWithMatrix(int s, int p) {
        for (int wrong : new int[] {LOW, -1, s, HIGH}) {
            add("entry of row " + wrong, BAD, d -> d.entry(wrong, 0, 0));
            add("entry of column " + wrong, BAD, d -> d.entry(0, wrong, 0));
            add("entryAt of row " + wrong, BAD, d -> d.entryAt(wrong, s - 1, 0));
            add("entryAt of column " + wrong, BAD, d -> d.entryAt(s - 1, wrong, p - 1));
        }
        add("entry with e = 7", BAD, d -> d.entry(s - 1, s - 1, 7));
        add("eliminant with e = 49", BAD, d -> d.eliminant(false, 49));
        add("reduced eliminant with e = 49", BAD, d -> d.eliminant(true, 49));
        add("count(7)", BAD, d -> d.count(7));
    }

    private void addFullText() {
        add("type(32) as the 61st", FULL, d -> d.type(32));
        add("type(126) as the 61st", FULL, d -> d.type(126));
        add("type('7') as the 61st", FULL, d -> d.type('7'));
    }

    private void addTooGreatExponents() {
        add("combine beyond x^2", FULL, d -> d.combine(0, 1, 1, 1, 0, 0));
        add("combine beyond y^2", FULL, d -> d.combine(0, 1, 28, 0, 2, 0));
        add("combine beyond t^2", FULL, d -> d.combine(0, 1, 1, 0, 0, 2));
        add("combine beyond all", FULL, d -> d.combine(2, 1, 1, 2, 2, 2));
    }

    private void addFault(int fault) {
        for (int k = 0; k < 3; k++) {
            int number = k;
            add("read(" + k + ") of a wrong text", fault, d -> d.read(number));
        }
        add("read(3) of a wrong text", BAD, d -> d.read(3));
        add("read(-1) of a wrong text", BAD, d -> d.read(-1));
    }
}
