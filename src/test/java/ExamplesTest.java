/** The four examples of the document. */
public final class ExamplesTest {
    private static final Expect expect = new Expect("examples");

    public static void main(String[] args) {
        plantedRoot();
        linearEliminant();
        texts();
        drops();
        constants();
        expect.finish();
    }

    private static void plantedRoot() {
        DixonEliminator d = new DixonEliminator();
        expect.due("1 setPrime", d.setPrime(7), 31);
        expect.due("1 draw", d.draw(12345, 1, 1, 1, 1), 23);
        expect.due("1 size", d.size(), 2);
        expect.due("1 rank", d.rank(), 2);
        expect.due("1 plant", d.plant(3, 5, 2), 3);
        expect.due("1 eliminantAt", d.eliminantAt(false, 2), 0);
        expect.due("1 commonRoots", d.commonRoots(2), 1);
        expect.due("1 commonRoot", d.commonRoot(2, 0), 305);
        expect.due("1 kernel", d.kernel(2), 1);
        expect.due("1 recovered", d.recovered(2, true), 5);
        expect.due("1 multiplicity", d.multiplicity(2), 1);
        expect.due("1 condition", d.condition(), 1);
        expect.due("1 solvable", d.solvable(), 4);
        expect.due("1 extraneous", d.extraneous(), 0);
        expect.due("1 undo", d.undo(), 2);
        expect.due("1 commonRoots after undo", d.commonRoots(2), 0);
    }

    private static void linearEliminant() {
        DixonEliminator d = new DixonEliminator();
        expect.due("2 setCoefficient a", d.setCoefficient(0, 1, 0, 0, 1), 0);
        expect.due("2 setCoefficient b", d.setCoefficient(0, 0, 0, 1, 30), 0);
        expect.due("2 setCoefficient c", d.setCoefficient(1, 0, 1, 0, 1), 0);
        expect.due("2 setCoefficient d", d.setCoefficient(1, 0, 0, 0, 26), 0);
        expect.due("2 setCoefficient e", d.setCoefficient(2, 1, 1, 0, 1), 0);
        expect.due("2 setCoefficient f", d.setCoefficient(2, 0, 0, 0, 21), 0);
        expect.due("2 size", d.size(), 2);
        expect.due("2 rank", d.rank(), 2);
        expect.due("2 selected", d.selected(true), 3);
        expect.due("2 eliminantDegree", d.eliminantDegree(false), 1);
        expect.due("2 eliminant", d.eliminant(false, 1), 26);
        expect.due("2 solvable", d.solvable(), 4);
        expect.due("2 commonRoot", d.commonRoot(2, 0), 205);
        expect.due("2 eliminantAt", d.eliminantAt(true, 2), 0);
        expect.due("2 kernel", d.kernel(2), 1);
        expect.due("2 confirmed", d.confirmed(2), 0);
    }

    private static void texts() {
        DixonEliminator d = new DixonEliminator();
        expect.due("3 type x", d.type(120), 1);
        expect.due("3 type 2", d.type(50), 2);
        expect.due("3 type y", d.type(121), 3);
        expect.due("3 type -", d.type(45), 4);
        expect.due("3 type 3", d.type(51), 5);
        expect.due("3 type t", d.type(116), 6);
        expect.due("3 read 0", d.read(0), 2);
        expect.due("3 coefficient", d.coefficient(0, 0, 0, 1), 28);
        expect.due("3 degree", d.degree(0, 0), 2);
        expect.due("3 degreeAt", d.degreeAt(0, 1, 0), 1);
        expect.due("3 type +", d.type(43), 7);
        expect.due("3 read 1", d.read(1), -17);
        expect.due("3 size", d.size(), 4);
        expect.due("3 rank", d.rank(), 0);
        expect.due("3 combine", d.combine(1, 0, 2, 0, 1, 0), 2);
    }

    private static void drops() {
        DixonEliminator d = new DixonEliminator();
        expect.due("4 setCoefficient a", d.setCoefficient(0, 1, 0, 1, 1), 0);
        expect.due("4 setCoefficient b", d.setCoefficient(0, 0, 1, 0, 5), 0);
        expect.due("4 degreeDrops", d.degreeDrops(), 1);
        expect.due("4 degreeAt", d.degreeAt(0, 0, 0), 0);
        expect.due("4 shift", d.shift(4), 3);
        expect.due("4 coefficient", d.coefficient(0, 1, 0, 0), 4);
        expect.due("4 degreeDrops shifted", d.degreeDrops(), 134217728);
        expect.due("4 commonRoots", d.commonRoots(0), 31);
        expect.due("4 commonRoot", d.commonRoot(0, 1), 124);
        expect.due("4 swap", d.swap(0, 2), 1);
        expect.due("4 value", d.value(2, 1, 1, 1), 10);
        expect.due("4 rank", d.rank(), 0);
        expect.due("4 size", d.size(), 2);
        expect.due("4 setPrime 9", d.setPrime(9), -1);
        expect.due("4 setPrime 11", d.setPrime(11), 31);
        expect.due("4 count", d.count(5), 0);
    }

    private static void constants() {
        expect.due("BAD", DixonEliminator.BAD, -1);
        expect.due("STATE", DixonEliminator.STATE, -2);
        expect.due("FULL", DixonEliminator.FULL, -3);
        expect.due("NONE", DixonEliminator.NONE, -9);
    }
}
