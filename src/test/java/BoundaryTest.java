import java.math.BigInteger;
import java.util.ArrayList;
import java.util.List;

/** The ends of what the document names: degrees, ranks, eliminants and roots, and arithmetic that wraps around. */
public final class BoundaryTest {
    private static final int BAD = -1, STATE = -2, FULL = -3, NONE = -9;
    private static final int LOW = Integer.MIN_VALUE, HIGH = Integer.MAX_VALUE;
    private static final Expect expect = new Expect("boundaries");

    public static void main(String[] args) {
        fieldWrapsAround();
        shiftWrapsAround();
        combineAtTheGreatestExponent();
        combineLooksAtTheProduct();
        drawnNumbers();
        drawWithinExponents();
        degreesOfNothing();
        degreeDropsAtAllNumbers();
        matrixFromTheDegreesOn();
        wholeMatrices();
        entriesOfTheGreatestDegree();
        rankAtTheLastNumberAlone();
        rankAtTheLastNumberAboveOthers();
        rankOfValuesNotOfPolynomials();
        selectionAtThePivotPoint();
        lastColumnAlone();
        lastRowAlone();
        selectionOfSparseMatrices();
        conditionOverAllNumbers();
        conditionMakesRootsZeros();
        greatestEliminant();
        greatestExtraneousFactor();
        extraneousAtBothEnds();
        allPairsAreRoots();
        rootsInTheCorners();
        rootsInOrder();
        kernels();
        recoveredAtTheEnds();
        recoveredWithoutRoot();
        confirmedNeedsBoth();
        counts();
        digestOverflows();
        expect.finish();
    }

    // ---- arithmetic modulo p

    // All 81 coefficients are p - 1.
    private static DixonEliminator allGreatest(int p) {
        DixonEliminator d = new DixonEliminator();
        d.setPrime(p);
        for (int q = 0; q < 81; q++) {
            expect.due("setCoefficient", d.setCoefficient(q / 27, q / 9 % 3, q / 3 % 3, q % 3, p - 1), 0);
        }
        return d;
    }

    private static void fieldWrapsAround() {
        for (int p : Given.PRIMES) {
            DixonEliminator d = allGreatest(p);
            String name = "p = " + p + ": ";
            expect.due(name + "count(5)", d.count(5), 81);
            expect.due(name + "shift(0)", d.shift(0), 81);
            expect.due(name + "value at (0, 0, 0)", d.value(0, 0, 0, 0), p - 1);
            expect.due(name + "value at (1, 1, 1)", d.value(1, 1, 1, 1), Math.floorMod(-27, p));
            expect.due(name + "value at the last of all", d.value(2, p - 1, p - 1, p - 1), p - 1);
            expect.due(name + "swap of equal ones", d.swap(0, 2), 0);
            expect.due(name + "-1 - 1", d.combine(0, 1, 1, 0, 0, 0), 27);
            expect.due(name + "-2", d.coefficient(0, 2, 2, 2), p - 2);
            expect.due(name + "-1 + (-1) * (-1)", d.combine(2, 1, p - 1, 0, 0, 0), 0);
            expect.due(name + "0", d.coefficient(2, 2, 2, 2), 0);
            expect.due(name + "0 + (-1) * (-1)", d.combine(2, 1, p - 1, 0, 0, 0), 27);
            expect.due(name + "1", d.coefficient(2, 0, 0, 0), 1);
            expect.due(name + "plant moves all", d.plant(p - 1, p - 1, p - 1), 3);
            expect.due(name + "-1 - (-1)", d.coefficient(1, 0, 0, 0), 0);
            expect.due(name + "-2 - (-2)", d.coefficient(0, 0, 0, 0), 0);
            expect.due(name + "value where it was planted", d.value(0, p - 1, p - 1, p - 1), 0);
            expect.due(name + "plant again", d.plant(p - 1, p - 1, p - 1), 0);
            expect.due(name + "setCoefficient back", d.setCoefficient(0, 2, 2, 2, 0), p - 2);
            expect.due(name + "count(5)", d.count(5), 81 - 4);
        }
    }

    private static void shiftWrapsAround() {
        for (int p : Given.PRIMES) {
            for (int c : new int[] {0, 1, 2, p / 2, p - 2, p - 1}) {
                DixonEliminator d = Given.over(p, "3t2x + 2tx + x + y2t2", "t2 + 4t", "4t - 2t2xy");
                int[][] before = new int[3][p];
                for (int t = 0; t < p; t++) {
                    for (int k = 0; k < 3; k++) {
                        before[k][t] = d.value(k, 2, 3, t);
                    }
                }
                String name = "p = " + p + ", shift(" + c + ")";
                expect.due(name, d.shift(c), d.count(5));
                for (int t = 0; t < p; t++) {
                    for (int k = 0; k < 3; k++) {
                        expect.due(name + ", value of " + k + " at " + t, d.value(k, 2, 3, t), before[k][(t + c) % p]);
                    }
                }
                d.shift((p - c) % p);
                expect.due(name + ", 4 after going back", d.coefficient(1, 0, 0, 1), 4);
                expect.due(name + ", 0 after going back", d.coefficient(1, 0, 0, 0), 0);
            }
        }
        DixonEliminator d = Given.of("t2", "t2 - 8t", "t2 + 15t + 16");
        expect.due("shift(4) of t^2, t^2 - 8 * t and t^2 + 15 * t + 16", d.shift(4), 3 + 2 + 3);
        expect.due("2 * 4", d.coefficient(0, 0, 0, 1), 8);
        expect.due("4 * 4", d.coefficient(0, 0, 0, 0), 16);
        expect.due("2 * 4 - 8", d.coefficient(1, 0, 0, 1), 0);
        expect.due("4 * 4 - 8 * 4", d.coefficient(1, 0, 0, 0), 15);
        expect.due("2 * 4 + 15", d.coefficient(2, 0, 0, 1), 23);
        expect.due("4 * 4 + 15 * 4 + 16", d.coefficient(2, 0, 0, 0), 92 % 31);
    }

    // ---- combine

    // Each term times each other one: it is refused if one of the three exponents is greater than 2.
    private static void combineAtTheGreatestExponent() {
        for (int term = 0; term < 27; term++) {
            for (int factor = 0; factor < 27; factor++) {
                int a = term / 9, b = term / 3 % 3, c = term % 3;
                int i = factor / 9, j = factor / 3 % 3, e = factor % 3;
                DixonEliminator d = new DixonEliminator();
                d.setCoefficient(1, a, b, c, 30);
                boolean over = a + i > 2 || b + j > 2 || c + e > 2;
                String name = "term " + term + " times term " + factor;
                expect.due(name, d.combine(0, 1, 30, i, j, e), over ? FULL : 1);
                expect.due(name + ", count(4)", d.count(4), over ? 1 : 2);
                expect.due(name + ", count(5)", d.count(5), over ? 1 : 2);
                if (!over) {
                    expect.due(name + ", the product", d.coefficient(0, a + i, b + j, c + e), 1);
                }
                expect.due(name + ", times 0", d.combine(2, 1, 0, i, j, e), 0);
                expect.due(name + ", times 0, count(5)", d.count(5), over ? 1 : 2);
            }
        }
    }

    private static void combineLooksAtTheProduct() {
        DixonEliminator d = Given.of("x2y2t2", "1", "x2 + 1");
        expect.due("what is changed may have all exponents", d.combine(0, 1, 1, 2, 2, 2), 1);
        expect.due("x^2 * y^2 * t^2 twice", d.coefficient(0, 2, 2, 2), 2);
        expect.due("it may vanish", d.combine(0, 1, 29, 2, 2, 2), 0);
        expect.due("a term of several that is too great", d.combine(0, 2, 1, 1, 0, 0), FULL);
        expect.due("the other terms are not added", d.count(5), 3);
        d.setCoefficient(2, 2, 0, 0, 0);
        expect.due("a term with the coefficient 0 is none", d.combine(0, 2, 1, 2, 0, 0), 1);
        expect.due("x^2", d.coefficient(0, 2, 0, 0), 1);
        expect.due("the other one stays", d.coefficient(2, 0, 0, 0), 1);
    }

    // ---- draw

    // The same with numbers of any length, cut to 32 bits only where a number of an int is asked for.
    private static int[] drawnBy(int seed, int p, int u, int v, int w, int thin) {
        BigInteger size = BigInteger.ONE.shiftLeft(32);
        BigInteger z = BigInteger.valueOf(seed);
        int[] terms = new int[81];
        for (int q = 0; q < 81; q++) {
            z = z.multiply(BigInteger.valueOf(1103515245)).add(BigInteger.valueOf(12345)).mod(size);
            int number = z.shiftRight(16).intValue() % 32768;
            boolean inside = q / 9 % 3 <= u && q / 3 % 3 <= v && q % 3 <= w;
            terms[q] = inside && (number - number % p) / p % thin == 0 ? number % p : 0;
        }
        return terms;
    }

    private static void drawsAs(int seed, int p, int u, int v, int w, int thin) {
        DixonEliminator d = allGreatest(p);
        int[] due = drawnBy(seed, p, u, v, w, thin);
        int others = 0;
        for (int term : due) {
            others += term != 0 ? 1 : 0;
        }
        String name = "p = " + p + ", draw(" + seed + ", " + u + ", " + v + ", " + w + ", " + thin + ")";
        expect.due(name, d.draw(seed, u, v, w, thin), others);
        for (int q = 0; q < 81; q++) {
            expect.due(name + ", term " + q, d.coefficient(q / 27, q / 9 % 3, q / 3 % 3, q % 3), due[q]);
        }
        expect.due(name + ", count(5)", d.count(5), others);
    }

    private static void drawnNumbers() {
        int[] seeds = {0, 1, -1, LOW, LOW + 1, HIGH, HIGH - 1, 12345, -12345, 1 << 16, 1 << 30, 0xDEADBEEF};
        for (int at = 0; at < seeds.length; at++) {
            for (int thin = 1; thin <= 9; thin++) {
                drawsAs(seeds[at], Given.PRIMES[(at + thin) % 9], 2, 2, 2, thin);
            }
        }
    }

    private static void drawWithinExponents() {
        for (int limits = 0; limits < 27; limits++) {
            drawsAs(-77, 31, limits / 9, limits / 3 % 3, limits % 3, 1);
            drawsAs(99, 5, limits / 9, limits / 3 % 3, limits % 3, 2);
        }
    }

    // ---- degrees

    private static void degreesOfNothing() {
        DixonEliminator d = new DixonEliminator();
        for (int k = 0; k < 3; k++) {
            for (int variable = 0; variable < 3; variable++) {
                expect.due("degree of nothing", d.degree(k, variable), 0);
            }
            expect.due("degreeAt of nothing", d.degreeAt(k, 0, 0), 0);
            expect.due("degreeAt of nothing", d.degreeAt(k, 1, 30), 0);
        }
        expect.due("degreeDrops() of nothing", d.degreeDrops(), 0);
        for (int q = 0; q < 27; q++) {
            d = new DixonEliminator();
            d.setCoefficient(2, q / 9, q / 3 % 3, q % 3, 30);
            expect.due("degree in x of term " + q, d.degree(2, 0), q / 9);
            expect.due("degree in y of term " + q, d.degree(2, 1), q / 3 % 3);
            expect.due("degree in t of term " + q, d.degree(2, 2), q % 3);
            expect.due("degree of another one", d.degree(1, 0) + d.degree(1, 1) + d.degree(0, 2), 0);
            boolean gone = q % 3 > 0;
            expect.due("degreeAt 0 in x of term " + q, d.degreeAt(2, 0, 0), gone ? 0 : q / 9);
            expect.due("degreeAt 0 in y of term " + q, d.degreeAt(2, 1, 0), gone ? 0 : q / 3 % 3);
            expect.due("degreeAt 30 in x of term " + q, d.degreeAt(2, 0, 30), q / 9);
            expect.due("degreeAt 30 in y of term " + q, d.degreeAt(2, 1, 30), q / 3 % 3);
            expect.due("degreeDrops() of term " + q, d.degreeDrops(), gone && q >= 3 ? 1 : 0);
        }
    }

    private static void degreeDropsAtAllNumbers() {
        DixonEliminator d = Given.over(5, "t2x - tx", "t2x2 - 5tx2 + 6x2 + x", "ty - 4y");
        expect.due("p = 5: each number is one where a degree drops", d.degreeDrops(), 31);
        expect.due("from 2 to 1", d.degreeAt(1, 0, 3), 1);
        expect.due("from 1 to 0", d.degreeAt(2, 1, 4), 0);
        d = Given.of("t2x - tx", "t2x2 - 5tx2 + 6x2 + x", "ty - 4y");
        expect.due("p = 31: the same five alone", d.degreeDrops(), 31);
        expect.due("drops at both ends", Given.of("t2y2 + ty2", "1", "t").degreeDrops(), 1 | 1 << 30);
    }

    // ---- the matrix

    private static void matrixFromTheDegreesOn() {
        for (int m = 0; m <= 2; m++) {
            for (int n = 0; n <= 2; n++) {
                int due = m >= 1 && n >= 1 ? 2 * m * n : STATE;
                for (int k = 0; k < 3; k++) {
                    String name = "size() with m = " + m + ", n = " + n + ", k = " + k;
                    DixonEliminator d = new DixonEliminator();
                    d.setCoefficient(k, m, n, 0, 1);
                    expect.due(name + " from one term", d.size(), due);
                    d = new DixonEliminator();
                    d.setCoefficient(k, m, 0, 2, 30);
                    d.setCoefficient((k + 1) % 3, 0, n, 1, 30);
                    expect.due(name + " from two polynomials", d.size(), due);
                    expect.due(name + ", rank()", d.rank(), due == STATE ? STATE : 0);
                    expect.due(name + ", count(1)", d.count(1), m);
                    expect.due(name + ", count(2)", d.count(2), n);
                    for (int at = 0; due > 0 && at <= due; at++) {
                        expect.due(name + ", row " + at, d.entry(at, 0, 0), at < due ? 0 : BAD);
                        expect.due(name + ", column " + at, d.entry(due - 1, at, 6), at < due ? 0 : BAD);
                    }
                }
            }
        }
    }

    private static void wholeMatrices() {
        int[][] degrees = {{1, 1}, {2, 1}, {1, 2}, {2, 2}};
        for (int[] degree : degrees) {
            for (int seed = 1; seed <= 3; seed++) {
                DixonEliminator d = new DixonEliminator();
                Reference r = new Reference();
                expect.due("draw", d.draw(seed, degree[0], degree[1], 2, seed), r.draw(seed, degree[0], degree[1], 2, seed));
                int s = r.size();
                expect.due("size()", d.size(), s);
                for (int at = 0; at < s * s; at++) {
                    for (int e = 0; e <= 6; e++) {
                        String name = "s = " + s + ", entry " + at + ", term " + e;
                        expect.due(name, d.entry(at / s, at % s, e), r.entry(at / s, at % s, e));
                    }
                }
            }
        }
    }

    // The Dixon polynomial of the greatest one is t^6 * (1 + y^2 + a^2 - y^2 * a^2) * (x + a) * (y + b).
    private static void entriesOfTheGreatestDegree() {
        DixonEliminator d = Given.greatest();
        for (int row = 0; row < 8; row++) {
            for (int column = 0; column < 8; column++) {
                int x = row % 2, y = row / 2, a = column % 4, b = column / 4;
                boolean fits = x + a % 2 == 1 && y % 2 + b == 1;
                int due = !fits ? 0 : y / 2 == 1 && a / 2 == 1 ? 30 : 1;
                String name = "entry(" + row + ", " + column + ", ..)";
                expect.due(name + " of degree 6", d.entry(row, column, 6), due);
                expect.due(name + " of degree 5", d.entry(row, column, 5), 0);
                expect.due(name + " at 30", d.entryAt(row, column, 30), due);
                expect.due(name + " at 0", d.entryAt(row, column, 0), 0);
            }
        }
        expect.due("degree 7", d.entry(7, 7, 7), BAD);
    }

    // ---- ranks

    // t * (t - 1) * x, (t - 2) * (t - 3) * y and (t - 4) * (t - 5): the matrix has one entry, their product.
    private static DixonEliminator sixZeros(int p) {
        return Given.over(p, "t2x - tx", "t2y - 5ty + 6y", "t2 - 9t + 20");
    }

    private static void rankAtTheLastNumberAlone() {
        DixonEliminator d = sixZeros(7);
        for (int t = 0; t < 7; t++) {
            expect.due("rankAt(" + t + ")", d.rankAt(t), t == 6 ? 1 : 0);
            expect.due("kernel(" + t + ")", d.kernel(t), t == 6 ? 1 : 2);
            expect.due("multiplicity(" + t + ")", d.multiplicity(t), t == 6 ? 0 : 1);
            expect.due("eliminantAt(false, " + t + ")", d.eliminantAt(false, t), t == 6 ? 720 % 7 : 0);
        }
        expect.due("rank()", d.rank(), 1);
        expect.due("pivotPoint()", d.pivotPoint(), 6);
        expect.due("rankDrops()", d.rankDrops(), 63);
        expect.due("selected rows", d.selected(true), 1);
        expect.due("selected columns", d.selected(false), 1);
        expect.due("condition()", d.condition(), 1);
        expect.due("eliminantDegree(false)", d.eliminantDegree(false), 6);
        expect.due("solvable()", d.solvable(), 1 << 4 | 1 << 5);
        expect.due("extraneous()", d.extraneous(), 15);
        expect.due("eliminantDegree(true)", d.eliminantDegree(true), 2);
        expect.due("20", d.eliminant(true, 0), 20 % 7);
        expect.due("-9", d.eliminant(true, 1), 5);
        expect.due("1", d.eliminant(true, 2), 1);
        d = sixZeros(31);
        expect.due("p = 31: pivotPoint()", d.pivotPoint(), 6);
        expect.due("p = 31: rankDrops()", d.rankDrops(), 63);
    }

    // The matrix is diagonal: alpha * beta and alpha * beta * (t - 4) * (t - 5).
    private static void rankAtTheLastNumberAboveOthers() {
        DixonEliminator d = Given.over(7, "t2x - tx", "t2y - 5ty + 6y", "1 - t2xy + 9txy - 20xy");
        int[] ranks = {0, 0, 0, 0, 1, 1, 2};
        int[] multiplicities = {2, 2, 2, 2, 1, 1, 0};
        for (int t = 0; t < 7; t++) {
            expect.due("rankAt(" + t + ") of several", d.rankAt(t), ranks[t]);
            expect.due("kernel(" + t + ") of several", d.kernel(t), 2 - ranks[t]);
            expect.due("multiplicity(" + t + ") of several", d.multiplicity(t), multiplicities[t]);
            expect.due("recovered(" + t + ", true), number 0 being 0", d.recovered(t, true), NONE);
        }
        expect.due("rank() of several", d.rank(), 2);
        expect.due("pivotPoint() of several", d.pivotPoint(), 6);
        expect.due("rankDrops() of several", d.rankDrops(), 63);
        expect.due("selected rows of several", d.selected(true), 3);
        expect.due("selected columns of several", d.selected(false), 3);
        expect.due("eliminantDegree(false) of several", d.eliminantDegree(false), 10);
        d.shift(6);
        expect.due("pivotPoint() shifted to 0", d.pivotPoint(), 0);
        expect.due("rankDrops() shifted", d.rankDrops(), 126);
        expect.due("rankAt(6) shifted", d.rankAt(6), 1);
    }

    private static void rankOfValuesNotOfPolynomials() {
        DixonEliminator d = sixZeros(5);
        expect.due("p = 5: the leading coefficient", d.entry(0, 0, 6), 1);
        expect.due("p = 5: rank()", d.rank(), 0);
        expect.due("p = 5: pivotPoint()", d.pivotPoint(), 0);
        expect.due("p = 5: rankDrops()", d.rankDrops(), 0);
        expect.due("p = 5: selected(true)", d.selected(true), 0);
        expect.due("p = 5: selected(false)", d.selected(false), 0);
        expect.due("p = 5: condition()", d.condition(), 0);
        expect.due("p = 5: extraneous()", d.extraneous(), 0);
        for (boolean reduced : new boolean[] {false, true}) {
            expect.due("p = 5: eliminantDegree", d.eliminantDegree(reduced), 0);
            expect.due("p = 5: eliminant 0", d.eliminant(reduced, 0), 1);
            expect.due("p = 5: eliminant 1", d.eliminant(reduced, 1), 0);
            expect.due("p = 5: eliminant 48", d.eliminant(reduced, 48), 0);
        }
        for (int t = 0; t < 5; t++) {
            expect.due("p = 5: kernel(" + t + ")", d.kernel(t), 2);
            expect.due("p = 5: multiplicity(" + t + ")", d.multiplicity(t), 0);
            expect.due("p = 5: eliminantAt(true, " + t + ")", d.eliminantAt(true, t), 1);
            expect.due("p = 5: recovered(" + t + ", true)", d.recovered(t, true), NONE);
            expect.due("p = 5: confirmed(" + t + ")", d.confirmed(t), 0);
        }
    }

    // The Dixon polynomials are t + y, t + a and t * (t - 1 + y).
    private static void selectionAtThePivotPoint() {
        DixonEliminator d = Given.of("tx + xy", "y", "1");
        expect.due("the row that is 0 at 0 alone", d.selected(true), 2);
        expect.due("its column", d.selected(false), 1);
        expect.due("the eliminant is the other row's", d.eliminantDegree(false), 0);
        d.shift(1);
        expect.due("the row that is 0 at 30 alone", d.selected(true), 1);
        expect.due("the eliminant is t + 1", d.eliminantDegree(false), 1);
        d = Given.of("x", "ty + xy", "1");
        expect.due("the column that is 0 at 0 alone", d.selected(false), 2);
        expect.due("its row", d.selected(true), 1);
        d.shift(1);
        expect.due("the column that is 0 at 30 alone", d.selected(false), 1);
        d = Given.of("t2x - tx + txy", "y", "1");
        expect.due("pivotPoint() behind a drop", d.pivotPoint(), 1);
        expect.due("the row that is 0 at 1 and at 0", d.selected(true), 2);
        expect.due("the eliminant is t", d.multiplicity(0), 1);
        expect.due("and no more", d.eliminantDegree(false), 1);
    }

    // The Dixon polynomial is (y + y^3) * x * a^3 * b: the rows 3 and 7 have their only entry in the last column.
    private static void lastColumnAlone() {
        DixonEliminator d = Given.of("x + xy2", "x2y", "x2y2");
        expect.due("row 3 of the last column", d.entry(3, 7, 0), 1);
        expect.due("row 7 of the last column", d.entry(7, 7, 0), 1);
        expect.due("selected rows of the last column alone", d.selected(true), 1 << 3);
        expect.due("the last column alone", d.selected(false), 1 << 7);
        rankOneOfEight("the last column alone: ", d);
        expect.due("1", d.eliminant(false, 0), 1);
    }

    // With x and y exchanged, it is -(a + a^3) * b * x * y^3.
    private static void lastRowAlone() {
        DixonEliminator d = Given.of("y + x2y", "xy2", "x2y2");
        expect.due("column 5 of the last row", d.entry(7, 5, 0), 30);
        expect.due("column 7 of the last row", d.entry(7, 7, 0), 30);
        expect.due("the last row alone", d.selected(true), 1 << 7);
        expect.due("selected columns of the last row alone", d.selected(false), 1 << 5);
        rankOneOfEight("the last row alone: ", d);
        expect.due("-1", d.eliminant(false, 0), 30);
    }

    private static void rankOneOfEight(String name, DixonEliminator d) {
        expect.due(name + "rank()", d.rank(), 1);
        expect.due(name + "pivotPoint()", d.pivotPoint(), 0);
        expect.due(name + "rankDrops()", d.rankDrops(), 0);
        expect.due(name + "condition()", d.condition(), 0);
        expect.due(name + "eliminantDegree(false)", d.eliminantDegree(false), 0);
        for (int t : new int[] {0, 30}) {
            expect.due(name + "rankAt(" + t + ")", d.rankAt(t), 1);
            expect.due(name + "kernel(" + t + ")", d.kernel(t), 7);
            expect.due(name + "recovered(" + t + ", true)", d.recovered(t, true), NONE);
        }
    }

    // Few terms leave rows and columns that depend on one another at any place, also on the last row and column.
    private static void selectionOfSparseMatrices() {
        int regular = 0;
        for (int seed = 1; seed <= 120; seed++) {
            int thin = 2 + seed % 8;
            DixonEliminator d = new DixonEliminator();
            Reference r = new Reference();
            expect.due("draw", d.draw(seed, 2, 2, 1, thin), r.draw(seed, 2, 2, 1, thin));
            String name = "draw(" + seed + ", 2, 2, 1, " + thin + "): ";
            expect.due(name + "rank()", d.rank(), r.rank());
            expect.due(name + "selected rows", d.selected(true), r.selected(true));
            expect.due(name + "selected columns", d.selected(false), r.selected(false));
            expect.due(name + "condition()", d.condition(), r.condition());
            if (d.rank() >= 0) {
                regular += d.rank() == d.size() ? 1 : 0;
                expect.due(name + "as many rows as the rank says", Integer.bitCount(d.selected(true)), d.rank());
                expect.due(name + "as many columns", Integer.bitCount(d.selected(false)), d.rank());
                expect.holds(name + "their determinant is not 0", d.eliminantAt(false, d.pivotPoint()) != 0);
                for (int t = 0; t < 31; t += 6) {
                    expect.due(name + "rankAt(" + t + ")", d.rankAt(t), r.rankAt(t));
                    expect.due(name + "kernel(" + t + ")", d.kernel(t), d.size() - r.rankAt(t));
                }
            }
        }
        expect.holds("most of them are singular, " + regular + " are not", regular < 40);
    }

    // The Dixon polynomial of the first is 1 + t * y: without row 0 the pivot point has a smaller rank than others.
    private static void conditionOverAllNumbers() {
        DixonEliminator d = Given.of("x + txy", "y", "1");
        expect.due("pivotPoint()", d.pivotPoint(), 0);
        expect.due("condition() of 1 + t * y", d.condition(), 0);
        expect.due("condition() of t + y", Given.of("tx + xy", "y", "1").condition(), 0);
        expect.due("condition() of t * 1", Given.of("tx", "y", "1").condition(), 1);
        expect.due("condition() of y * a", Given.of("x", "y", "xy").condition(), 0);
        expect.due("condition() of 0", Given.of("x2y2", "0", "0").condition(), 0);
    }

    private static void conditionMakesRootsZeros() {
        for (int seed = 1; seed <= 60; seed++) {
            DixonEliminator d = new DixonEliminator();
            d.setPrime(Given.PRIMES[seed % 9]);
            d.draw(seed, 1 + seed % 2, 1 + seed / 2 % 2, 1, 1 + seed % 3);
            d.plant(seed % 5, seed % 3, 4);
            int zeros = 0;
            for (int t = 0; t < d.count(0); t++) {
                zeros |= d.eliminantAt(false, t) == 0 ? 1 << t : 0;
            }
            boolean due = d.condition() != 1 || (d.solvable() & ~zeros) == 0;
            expect.holds("seed " + seed + ": the eliminant is 0 at each common root", due);
            if (d.condition() >= 0) {
                expect.due("seed " + seed + ": extraneous()", d.extraneous(), zeros & ~d.solvable());
            }
        }
    }

    // ---- eliminants

    private static void greatestEliminant() {
        DixonEliminator d = Given.greatest();
        for (int e = 0; e <= 48; e++) {
            expect.due("eliminant(false, " + e + ")", d.eliminant(false, e), e == 48 ? 16 : 0);
            expect.due("eliminant(true, " + e + ")", d.eliminant(true, e), e == 48 ? 1 : 0);
        }
        expect.due("eliminant(false, 49)", d.eliminant(false, 49), BAD);
        expect.due("eliminantDegree(false)", d.eliminantDegree(false), 48);
        expect.due("eliminantDegree(true)", d.eliminantDegree(true), 48);
        expect.due("rank()", d.rank(), 8);
        expect.due("pivotPoint()", d.pivotPoint(), 1);
        expect.due("selected rows", d.selected(true), 255);
        expect.due("selected columns", d.selected(false), 255);
        expect.due("rankDrops()", d.rankDrops(), 1);
        expect.due("condition()", d.condition(), 1);
        expect.due("extraneous()", d.extraneous(), 0);
        expect.due("solvable()", d.solvable(), 1);
        expect.due("count(6)", d.count(6), 961);
        expect.due("kernel(0)", d.kernel(0), 8);
        expect.due("kernel(30)", d.kernel(30), 0);
        expect.due("multiplicity(0)", d.multiplicity(0), 48);
        expect.due("multiplicity(1)", d.multiplicity(1), 0);
        expect.due("16 * 2^48", d.eliminantAt(false, 2), 16 * 8 % 31);
        expect.due("2^48", d.eliminantAt(true, 2), 8);
        d.shift(1);
        expect.due("shifted: multiplicity(30)", d.multiplicity(30), 48);
        expect.due("shifted: multiplicity(0)", d.multiplicity(0), 0);
        expect.due("shifted: eliminant(false, 0)", d.eliminant(false, 0), 16);
        expect.due("shifted: eliminant(false, 1)", d.eliminant(false, 1), 16 * 48 % 31);
        expect.due("shifted: eliminant(false, 47)", d.eliminant(false, 47), 16 * 48 % 31);
        expect.due("shifted: eliminantDegree(true)", d.eliminantDegree(true), 48);
        expect.due("shifted: rankDrops()", d.rankDrops(), 1 << 30);
    }

    // At t = 0 only x^2 * y^2 + 1 is left, and -1 is no square.
    private static void greatestExtraneousFactor() {
        DixonEliminator d = Given.of("t2x2 - t2", "t2y2 - t2", "x2y2 + 1");
        expect.due("eliminantDegree(false)", d.eliminantDegree(false), 32);
        expect.due("eliminant(false, 32)", d.eliminant(false, 32), 16);
        expect.due("multiplicity(0)", d.multiplicity(0), 32);
        expect.due("solvable()", d.solvable(), 0);
        expect.due("extraneous()", d.extraneous(), 1);
        expect.due("eliminantDegree(true)", d.eliminantDegree(true), 0);
        expect.due("eliminant(true, 0)", d.eliminant(true, 0), 1);
        expect.due("eliminantAt(true, 0)", d.eliminantAt(true, 0), 1);
        d.shift(1);
        expect.due("shifted: extraneous()", d.extraneous(), 1 << 30);
        expect.due("shifted: eliminantDegree(true)", d.eliminantDegree(true), 0);
        expect.due("shifted: eliminantAt(true, 30)", d.eliminantAt(true, 30), 1);
        expect.due("shifted: eliminantAt(false, 30)", d.eliminantAt(false, 30), 0);
    }

    // The Dixon polynomials are 1 - t * (t + 1) * y * a, and twice t - 7 times that.
    private static void extraneousAtBothEnds() {
        DixonEliminator d = Given.of("x", "y", "t2xy + txy + 1");
        expect.due("extraneous() at both ends", d.extraneous(), 1 | 1 << 30);
        expect.due("all zeros of the eliminant are extraneous", d.eliminantDegree(true), 0);
        d = Given.of("2tx - 14x", "y", "t2xy + txy + 1");
        expect.due("extraneous(), 7 being one, too", d.extraneous(), 1 | 1 << 7 | 1 << 30);
        expect.due("7 is one twice", d.multiplicity(7), 2);
        expect.due("eliminantDegree(false)", d.eliminantDegree(false), 4);
        expect.due("eliminantDegree(true)", d.eliminantDegree(true), 0);
        d = Given.of("2tx - 14x", "y", "t2xy + txy + x");
        expect.due("a root at each number: none is extraneous", d.extraneous(), 0);
        expect.due("a root at each number: solvable()", d.solvable(), HIGH);
        d = Given.of("x", "y", "3xy");
        expect.due("a constant eliminant has no zeros", d.extraneous(), 0);
        expect.due("-3", d.eliminant(false, 0), 28);
        expect.due("-3 divided by -3", d.eliminant(true, 0), 1);
    }

    // ---- common roots

    private static void allPairsAreRoots() {
        for (int p : Given.PRIMES) {
            DixonEliminator d = new DixonEliminator();
            d.setPrime(p);
            for (int t = 0; t < p; t++) {
                String name = "p = " + p + ", t = " + t + ": ";
                expect.due(name + "all pairs", d.commonRoots(t), p * p);
                expect.due(name + "the first", d.commonRoot(t, 0), 0);
                expect.due(name + "the last for x = 0", d.commonRoot(t, p - 1), p - 1);
                expect.due(name + "the first for x = 1", d.commonRoot(t, p), 100);
                expect.due(name + "the last", d.commonRoot(t, p * p - 1), 101 * (p - 1));
                expect.due(name + "one more", d.commonRoot(t, p * p), NONE);
                expect.due(name + "the greatest index", d.commonRoot(t, HIGH), NONE);
                expect.due(name + "a negative index", d.commonRoot(t, -1), BAD);
            }
            expect.due("p = " + p + ": solvable()", d.solvable(), HIGH >> 31 - p);
            expect.due("p = " + p + ": count(6)", d.count(6), p * p * p);
            d.setCoefficient(1, 0, 0, 0, p - 1);
            expect.due("p = " + p + ": no pair", d.count(6), 0);
            expect.due("p = " + p + ": no number", d.solvable(), 0);
            expect.due("p = " + p + ": no first root", d.commonRoot(p - 1, 0), NONE);
        }
    }

    private static void rootsInTheCorners() {
        for (int p : Given.PRIMES) {
            for (int corner = 0; corner < 8; corner++) {
                int x = (corner & 1) * (p - 1), y = (corner >> 1 & 1) * (p - 1), t = (corner >> 2) * (p - 1);
                DixonEliminator d = Given.over(p, "x", "y", "t");
                String name = "p = " + p + ", plant(" + x + ", " + y + ", " + t + ")";
                expect.due(name, d.plant(x, y, t), Integer.bitCount(corner));
                expect.due(name + ", solvable()", d.solvable(), 1 << t);
                expect.due(name + ", commonRoots", d.commonRoots(t), 1);
                expect.due(name + ", commonRoot", d.commonRoot(t, 0), 100 * x + y);
                expect.due(name + ", no second one", d.commonRoot(t, 1), NONE);
                expect.due(name + ", none elsewhere", d.commonRoots(p - 1 - t), 0);
                expect.due(name + ", count(6)", d.count(6), 1);
                expect.due(name + ", eliminantAt", d.eliminantAt(false, t), 0);
                expect.due(name + ", recovered", d.recovered(t, true), NONE);
                expect.due(name + ", extraneous()", d.extraneous(), 0);
                expect.due(name + ", the reduced eliminant", d.eliminant(true, 0), (p - t) % p);
            }
        }
    }

    // The roots are x = 1 or 9, and y = 2 or 10.
    private static void rootsInOrder() {
        DixonEliminator d = Given.of("x2 - 10x + 9", "y2 - 12y + 20", "0");
        int[] due = {102, 110, 902, 910, NONE};
        for (int t : new int[] {0, 30}) {
            for (int index = 0; index < due.length; index++) {
                expect.due("commonRoot(" + t + ", " + index + ")", d.commonRoot(t, index), due[index]);
            }
        }
        d = Given.of("x + y", "0", "0");
        for (int index = 0; index < 31; index++) {
            expect.due("root " + index + " of x + y", d.commonRoot(7, index), 100 * index + (31 - index) % 31);
        }
        expect.due("root 31 of x + y", d.commonRoot(7, 31), NONE);
    }

    // ---- kernels

    private static void kernels() {
        int[][] degrees = {{1, 1}, {2, 1}, {1, 2}, {2, 2}};
        for (int[] degree : degrees) {
            DixonEliminator d = new DixonEliminator();
            d.setCoefficient(0, degree[0], degree[1], 0, 1);
            int s = 2 * degree[0] * degree[1];
            for (int t : new int[] {0, 30}) {
                expect.due("kernel(" + t + ") of a zero matrix", d.kernel(t), s);
                expect.due("x of it", d.recovered(t, false), NONE);
                expect.due("y of it", d.recovered(t, true), NONE);
                expect.due("confirmed(" + t + ") of it", d.confirmed(t), 0);
            }
        }
        DixonEliminator d = Given.of("tx", "y", "1");
        expect.due("a kernel of dimension 2 at 0", d.kernel(0), 2);
        expect.due("y of it", d.recovered(0, true), NONE);
        expect.due("a kernel of dimension 1 elsewhere", d.kernel(1), 1);
        expect.due("y of it, number 0 being 0", d.recovered(1, true), NONE);
        d = Given.of("x", "y", "t - xy");
        expect.due("the kernel row (1, 0)", d.recovered(0, true), 0);
        expect.due("x of it with m = 1", d.recovered(0, false), NONE);
        expect.due("no kernel", d.recovered(1, true), NONE);
    }

    // A planted root with the smallest and the greatest coordinates, where the kernel has the dimension 1.
    private static void recoveredAtTheEnds() {
        int[][] degrees = {{1, 1}, {2, 1}, {1, 2}, {2, 2}};
        int found = 0;
        for (int p : Given.PRIMES) {
            for (int[] degree : degrees) {
                for (int corner = 0; corner < 8; corner++) {
                    int x = (corner & 1) * (p - 1), y = (corner >> 1 & 1) * (p - 1), t = (corner >> 2) * (p - 1);
                    DixonEliminator d = new DixonEliminator();
                    d.setPrime(p);
                    d.draw(1000 + p, degree[0], degree[1], 2, 1);
                    d.plant(x, y, t);
                    if (d.kernel(t) == 1) {
                        found++;
                        String name = "p = " + p + ", plant(" + x + ", " + y + ", " + t + "): ";
                        boolean both = degree[0] == 2;
                        expect.due(name + "x", d.recovered(t, false), both ? x : NONE);
                        expect.due(name + "y", d.recovered(t, true), y);
                        expect.due(name + "confirmed", d.confirmed(t), both ? 1 : 0);
                        expect.due(name + "rankAt", d.rankAt(t), 2 * degree[0] * degree[1] - 1);
                    }
                }
            }
        }
        expect.holds("most of the planted roots can be recovered, " + found + " of 288", found > 200);
    }

    // At t = 0 all terms with x have the factor y - 5, but there is no root: it lies at an infinite x.
    private static void recoveredWithoutRoot() {
        DixonEliminator d = Given.of("xy - 5x + 1", "2xy - 10x + y", "tx + 1");
        expect.due("commonRoots(0)", d.commonRoots(0), 0);
        expect.due("kernel(0)", d.kernel(0), 1);
        expect.due("recovered(0, true)", d.recovered(0, true), 5);
        expect.due("recovered(0, false)", d.recovered(0, false), NONE);
        expect.due("confirmed(0)", d.confirmed(0), 0);
        expect.due("0 is extraneous", d.extraneous() & 1, 1);
    }

    // With m = 1 no x is recovered: no number stands for it, not even the one that NONE is modulo p.
    private static void confirmedNeedsBoth() {
        for (int p : Given.PRIMES) {
            for (int x = 0; x < p; x++) {
                DixonEliminator d = new DixonEliminator();
                d.setPrime(p);
                d.draw(p, 1, 1, 2, 1);
                d.plant(x, 3, 2);
                String name = "p = " + p + ", m = 1, plant(" + x + ", 3, 2): ";
                expect.due(name + "x", d.recovered(2, false), NONE);
                expect.due(name + "y", d.recovered(2, true), d.kernel(2) == 1 ? 3 : NONE);
                expect.due(name + "confirmed", d.confirmed(2), 0);
                expect.holds(name + "the root", d.commonRoots(2) >= 1);
            }
        }
    }

    // ---- numbers and the hash

    private static void counts() {
        DixonEliminator d = allGreatest(5);
        for (int length = 0; length < 60; length++) {
            d.type('~');
        }
        int[] due = {5, 2, 2, 60, 8, 81};
        for (int what = 0; what < due.length; what++) {
            expect.due("count(" + what + ") of the greatest", d.count(what), due[what]);
        }
        expect.due("count(7)", d.count(7), BAD);
        expect.due("count(-1)", d.count(-1), BAD);
        d.setPrime(5);
        int[] least = {5, 0, 0, 60, 8, 0, 125};
        for (int what = 0; what < least.length; what++) {
            expect.due("count(" + what + ") of nothing", d.count(what), least[what]);
        }
    }

    private static List<Long> valuesOf(DixonEliminator d) {
        List<Long> values = new ArrayList<>();
        for (int what = 0; what <= 6; what++) {
            values.add((long) d.count(what));
        }
        values.add((long) d.degreeDrops());
        values.add((long) d.solvable());
        values.add((long) d.size());
        if (d.size() < 0) {
            return values;
        }
        int[] facts = {d.rank(), d.pivotPoint(), d.selected(true), d.selected(false), d.rankDrops(), d.condition(),
            d.extraneous()};
        for (int fact : facts) {
            values.add((long) fact);
        }
        for (boolean reduced : new boolean[] {false, true}) {
            values.add((long) d.eliminantDegree(reduced));
            for (int e = 0; e <= 48; e++) {
                values.add((long) d.eliminant(reduced, e));
            }
        }
        for (int t = 0; t < d.count(0); t++) {
            values.add((long) d.confirmed(t));
        }
        return values;
    }

    // With numbers of any length the hash is far beyond a long; its last 64 bits are due.
    private static void digestOverflows() {
        DixonEliminator[] objects = {new DixonEliminator(), Given.linear(), Given.partlyExtraneous(), Given.planted(),
            Given.greatest(), sixZeros(5), sixZeros(7), allGreatest(31), Given.of("t", "x2", "x")};
        BigInteger most = BigInteger.valueOf(Long.MAX_VALUE);
        boolean negative = false;
        boolean positive = false;
        for (int at = 0; at < objects.length; at++) {
            BigInteger h = BigInteger.valueOf(18404);
            for (long v : valuesOf(objects[at])) {
                h = h.multiply(BigInteger.valueOf(31)).add(BigInteger.valueOf(v));
            }
            expect.holds("the hash of object " + at + " overflows", h.compareTo(most) > 0);
            expect.due("digest() of object " + at, objects[at].digest(), h.longValue());
            expect.due("digest() of object " + at + " again", objects[at].digest(), h.longValue());
            negative = negative || h.longValue() < 0;
            positive = positive || h.longValue() > 0;
        }
        expect.holds("some hashes are negative, some are positive", negative && positive);
    }
}
