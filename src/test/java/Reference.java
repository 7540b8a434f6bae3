import java.util.ArrayDeque;
import java.util.ArrayList;
import java.util.Arrays;
import java.util.Deque;
import java.util.List;
import java.util.TreeMap;
import java.util.regex.Matcher;
import java.util.regex.Pattern;

/**
 * The document followed word by word and slowly, by other ways than the class takes: the Dixon polynomial by a long
 * division, the eliminant by a fraction-free elimination, the texts by a regular expression. It has the class's face.
 */
final class Reference {
    private static final int BAD = -1, STATE = -2, FULL = -3, NONE = -9;
    private static final List<Integer> PRIMES = Arrays.asList(5, 7, 11, 13, 17, 19, 23, 29, 31);
    private static final Pattern TEXT = textPattern();

    private int p = 31;
    private int[][][][] f = new int[3][3][3][3];
    private final StringBuilder text = new StringBuilder();
    private final Deque<Saved> saved = new ArrayDeque<>();
    private Facts facts;

    private static final class Saved {
        int p;
        int[][][][] f;
    }

    /** What follows from the polynomials; it is found once for each state. */
    private static final class Facts {
        int m, n, s;
        int[][][] entries;
        int[] ranks, below;
        int rank, pivot, rows, columns, drops, condition, extraneous, solvable;
        int[] eliminant, reduced;
        List<List<Integer>> roots = new ArrayList<>();
    }

    // ---- the field

    private int mod(long v) {
        return (int) Math.floorMod(v, (long) p);
    }

    private int inverse(int v) {
        int w = 1;
        for (int i = 0; i < p - 2; i++) {
            w = mod((long) w * v);
        }
        return w;
    }

    private int power(int base, int exponent) {
        int w = 1;
        for (int i = 0; i < exponent; i++) {
            w = mod((long) w * base);
        }
        return w;
    }

    // ---- polynomials

    private static int[][][][] copy(int[][][][] source) {
        int[][][][] target = new int[3][3][3][];
        for (int k = 0; k < 3; k++) {
            for (int i = 0; i < 3; i++) {
                for (int j = 0; j < 3; j++) {
                    target[k][i][j] = source[k][i][j].clone();
                }
            }
        }
        return target;
    }

    private void change() {
        Saved state = new Saved();
        state.p = p;
        state.f = copy(f);
        saved.addLast(state);
        if (saved.size() > 8) {
            saved.removeFirst();
        }
        facts = null;
    }

    private static boolean out(int v, int first, int last) {
        return v < first || v > last;
    }

    private boolean notInField(int v) {
        return out(v, 0, p - 1);
    }

    private int terms(int k) {
        int found = 0;
        for (int[][] a : f[k]) {
            for (int[] b : a) {
                for (int c : b) {
                    found += c != 0 ? 1 : 0;
                }
            }
        }
        return found;
    }

    int setPrime(int q) {
        if (!PRIMES.contains(q)) {
            return BAD;
        }
        change();
        int before = p;
        p = q;
        f = new int[3][3][3][3];
        return before;
    }

    int type(int code) {
        if (out(code, 32, 126)) {
            return BAD;
        }
        if (text.length() == 60) {
            return FULL;
        }
        text.append((char) code);
        return text.length();
    }

    int clearText() {
        int before = text.length();
        text.setLength(0);
        return before;
    }

    private static Pattern textPattern() {
        String[] letters = {"x", "y", "t"};
        List<String> products = new ArrayList<>();
        for (String a : letters) {
            products.add(a + "[012]?");
            for (String b : letters) {
                if (!a.equals(b)) {
                    products.add(a + "[012]? *" + b + "[012]?");
                    for (String c : letters) {
                        if (!a.equals(c) && !b.equals(c)) {
                            products.add(a + "[012]? *" + b + "[012]? *" + c + "[012]?");
                        }
                    }
                }
            }
        }
        String factors = "(?:" + String.join("|", products) + ")";
        String term = "(?:[0-9]{1,3}(?: *" + factors + ")?|" + factors + ")";
        return Pattern.compile(" *(?:[+-] *)?" + term + "(?: *[+-] *" + term + ")* *");
    }

    // The length of the longest beginning that can be part of a text, or -1 if the text is whole.
    static int fault(String text) {
        for (int length = 1; length <= text.length(); length++) {
            Matcher matcher = TEXT.matcher(text.substring(0, length));
            boolean whole = matcher.matches();
            if (!whole && !matcher.hitEnd()) {
                return length - 1;
            }
        }
        return TEXT.matcher(text).matches() ? -1 : text.length();
    }

    int read(int k) {
        if (out(k, 0, 2)) {
            return BAD;
        }
        int fault = fault(text.toString());
        if (fault >= 0) {
            return -10 - fault;
        }
        change();
        f[k] = new int[3][3][3];
        Matcher terms = Pattern.compile("([+-]?)([0-9]*)((?:[xyt][0-2]?)*)").matcher(text.toString().replace(" ", ""));
        while (terms.find()) {
            if (terms.group().isEmpty()) {
                continue;
            }
            int number = terms.group(2).isEmpty() ? 1 : Integer.parseInt(terms.group(2));
            int[] exponents = new int[3];
            Matcher factors = Pattern.compile("([xyt])([0-2]?)").matcher(terms.group(3));
            while (factors.find()) {
                int exponent = factors.group(2).isEmpty() ? 1 : Integer.parseInt(factors.group(2));
                exponents["xyt".indexOf(factors.group(1))] = exponent;
            }
            int signed = terms.group(1).equals("-") ? -number : number;
            int[] place = f[k][exponents[0]][exponents[1]];
            place[exponents[2]] = mod(place[exponents[2]] + signed);
        }
        return terms(k);
    }

    private static boolean noTerm(int k, int i, int j, int e) {
        return out(k, 0, 2) || out(i, 0, 2) || out(j, 0, 2) || out(e, 0, 2);
    }

    int setCoefficient(int k, int i, int j, int e, int v) {
        if (noTerm(k, i, j, e) || notInField(v)) {
            return BAD;
        }
        change();
        int before = f[k][i][j][e];
        f[k][i][j][e] = v;
        return before;
    }

    int coefficient(int k, int i, int j, int e) {
        return noTerm(k, i, j, e) ? BAD : f[k][i][j][e];
    }

    int draw(int seed, int u, int v, int w, int thin) {
        if (out(u, 0, 2) || out(v, 0, 2) || out(w, 0, 2) || out(thin, 1, 9)) {
            return BAD;
        }
        change();
        f = new int[3][3][3][3];
        int z = seed;
        for (int k = 0; k < 3; k++) {
            for (int i = 0; i < 3; i++) {
                for (int j = 0; j < 3; j++) {
                    for (int e = 0; e < 3; e++) {
                        z = z * 1103515245 + 12345;
                        int number = (z >>> 16) & 32767;
                        if (i <= u && j <= v && e <= w && number / p % thin == 0) {
                            f[k][i][j][e] = number % p;
                        }
                    }
                }
            }
        }
        return terms(0) + terms(1) + terms(2);
    }

    private int at(int k, int x, int y, int t) {
        long sum = 0;
        for (int i = 0; i < 3; i++) {
            for (int j = 0; j < 3; j++) {
                for (int e = 0; e < 3; e++) {
                    sum += (long) f[k][i][j][e] * power(x, i) * power(y, j) * power(t, e);
                }
            }
        }
        return mod(sum);
    }

    int plant(int x, int y, int t) {
        if (notInField(x) || notInField(y) || notInField(t)) {
            return BAD;
        }
        change();
        int others = 0;
        for (int k = 0; k < 3; k++) {
            int before = f[k][0][0][0];
            f[k][0][0][0] = 0;
            f[k][0][0][0] = mod(-at(k, x, y, t));
            others += f[k][0][0][0] != before ? 1 : 0;
        }
        return others;
    }

    int swap(int k, int l) {
        if (out(k, 0, 2) || out(l, 0, 2)) {
            return BAD;
        }
        change();
        int[][][] kept = f[k];
        f[k] = f[l];
        f[l] = kept;
        return Arrays.deepEquals(f[k], f[l]) ? 0 : 1;
    }

    int combine(int k, int l, int c, int i, int j, int e) {
        if (noTerm(k, i, j, e) || out(l, 0, 2) || notInField(c) || k == l) {
            return BAD;
        }
        int[][][] product = new int[5][5][5];
        boolean over = false;
        for (int a = 0; a < 3; a++) {
            for (int b = 0; b < 3; b++) {
                for (int d = 0; d < 3; d++) {
                    int v = mod((long) c * f[l][a][b][d]);
                    product[a + i][b + j][d + e] = v;
                    over |= v != 0 && (a + i > 2 || b + j > 2 || d + e > 2);
                }
            }
        }
        if (over) {
            return FULL;
        }
        change();
        for (int a = 0; a < 3; a++) {
            for (int b = 0; b < 3; b++) {
                for (int d = 0; d < 3; d++) {
                    f[k][a][b][d] = mod(f[k][a][b][d] + product[a][b][d]);
                }
            }
        }
        return terms(k);
    }

    int shift(int c) {
        if (notInField(c)) {
            return BAD;
        }
        change();
        int[][] binomials = {{1, 0, 0}, {1, 1, 0}, {1, 2, 1}};
        int[][][][] g = new int[3][3][3][3];
        for (int k = 0; k < 3; k++) {
            for (int i = 0; i < 3; i++) {
                for (int j = 0; j < 3; j++) {
                    for (int e = 0; e < 3; e++) {
                        for (int d = 0; d <= e; d++) {
                            g[k][i][j][d] = mod(g[k][i][j][d] + (long) f[k][i][j][e] * binomials[e][d] * power(c, e - d));
                        }
                    }
                }
            }
        }
        f = g;
        return terms(0) + terms(1) + terms(2);
    }

    int value(int k, int x, int y, int t) {
        return out(k, 0, 2) || notInField(x) || notInField(y) || notInField(t) ? BAD : at(k, x, y, t);
    }

    int degree(int k, int variable) {
        if (out(k, 0, 2) || out(variable, 0, 2)) {
            return BAD;
        }
        int found = 0;
        for (int i = 0; i < 3; i++) {
            for (int j = 0; j < 3; j++) {
                for (int e = 0; e < 3; e++) {
                    if (f[k][i][j][e] != 0) {
                        found = Math.max(found, new int[] {i, j, e}[variable]);
                    }
                }
            }
        }
        return found;
    }

    int degreeAt(int k, int variable, int t) {
        if (out(k, 0, 2) || out(variable, 0, 1) || notInField(t)) {
            return BAD;
        }
        int found = 0;
        for (int i = 0; i < 3; i++) {
            for (int j = 0; j < 3; j++) {
                if (horner(f[k][i][j], t) != 0) {
                    found = Math.max(found, variable == 0 ? i : j);
                }
            }
        }
        return found;
    }

    int degreeDrops() {
        int set = 0;
        for (int t = 0; t < p; t++) {
            for (int k = 0; k < 3; k++) {
                for (int variable = 0; variable < 2; variable++) {
                    if (degreeAt(k, variable, t) < degree(k, variable)) {
                        set |= 1 << t;
                    }
                }
            }
        }
        return set;
    }

    private int horner(int[] terms, int t) {
        int sum = 0;
        for (int e = terms.length - 1; e >= 0; e--) {
            sum = mod((long) sum * t + terms[e]);
        }
        return sum;
    }

    // ---- the Dixon polynomial: exponents of x, y, a, b and t as the digits of a number in base 16

    private static final int X = 0, Y = 1, A = 2, B = 3, T = 4;

    private static int digit(int key, int variable) {
        return key >> 4 * variable & 15;
    }

    private static int one(int variable) {
        return 1 << 4 * variable;
    }

    private void add(TreeMap<Integer, Integer> sum, int key, long number) {
        int v = mod(sum.getOrDefault(key, 0) + number);
        if (v == 0) {
            sum.remove(key);
        } else {
            sum.put(key, v);
        }
    }

    private TreeMap<Integer, Integer> times(TreeMap<Integer, Integer> g, TreeMap<Integer, Integer> h) {
        TreeMap<Integer, Integer> product = new TreeMap<>();
        g.forEach((a, v) -> h.forEach((b, w) -> add(product, a + b, (long) v * w)));
        return product;
    }

    private TreeMap<Integer, Integer> substituted(int k, int forX, int forY) {
        TreeMap<Integer, Integer> result = new TreeMap<>();
        for (int i = 0; i < 3; i++) {
            for (int j = 0; j < 3; j++) {
                for (int e = 0; e < 3; e++) {
                    add(result, i * one(forX) + j * one(forY) + e * one(T), f[k][i][j][e]);
                }
            }
        }
        return result;
    }

    private TreeMap<Integer, Integer> divided(TreeMap<Integer, Integer> dividend, int variable, int other) {
        TreeMap<Integer, Integer> rest = new TreeMap<>(dividend);
        TreeMap<Integer, Integer> quotient = new TreeMap<>();
        for (int exponent = 15; exponent > 0; exponent--) {
            for (int key : new ArrayList<>(rest.keySet())) {
                if (digit(key, variable) == exponent) {
                    int v = rest.get(key);
                    int smaller = key - one(variable);
                    add(quotient, smaller, v);
                    add(rest, key, -v);
                    add(rest, smaller + one(other), v);
                }
            }
        }
        if (!rest.isEmpty()) {
            throw new IllegalStateException("a remainder is left");
        }
        return quotient;
    }

    private TreeMap<Integer, Integer> dixonPolynomial() {
        int[][] variables = {{X, Y}, {A, Y}, {A, B}};
        int[][] orders = {{0, 1, 2}, {1, 2, 0}, {2, 0, 1}, {0, 2, 1}, {2, 1, 0}, {1, 0, 2}};
        TreeMap<Integer, Integer> determinant = new TreeMap<>();
        for (int o = 0; o < 6; o++) {
            TreeMap<Integer, Integer> product = new TreeMap<>();
            product.put(0, o < 3 ? 1 : p - 1);
            for (int row = 0; row < 3; row++) {
                product = times(product, substituted(orders[o][row], variables[row][0], variables[row][1]));
            }
            product.forEach((key, v) -> add(determinant, key, v));
        }
        return divided(divided(determinant, X, A), Y, B);
    }

    // ---- the matrix and its ranks

    private Facts facts() {
        if (facts == null) {
            facts = new Facts();
            findRoots(facts);
            for (int k = 0; k < 3; k++) {
                facts.m = Math.max(facts.m, degree(k, 0));
                facts.n = Math.max(facts.n, degree(k, 1));
            }
            facts.s = facts.m >= 1 && facts.n >= 1 ? 2 * facts.m * facts.n : 0;
            if (facts.s > 0) {
                findMatrix(facts);
                findRanks(facts);
                findEliminant(facts);
            }
        }
        return facts;
    }

    private void findRoots(Facts r) {
        for (int t = 0; t < p; t++) {
            List<Integer> here = new ArrayList<>();
            int[][][] g = new int[3][3][3];
            for (int k = 0; k < 3; k++) {
                for (int i = 0; i < 3; i++) {
                    for (int j = 0; j < 3; j++) {
                        g[k][i][j] = horner(f[k][i][j], t);
                    }
                }
            }
            for (int x = 0; x < p; x++) {
                for (int y = 0; y < p; y++) {
                    boolean root = true;
                    for (int k = 0; k < 3 && root; k++) {
                        int sum = 0;
                        for (int i = 0; i < 3; i++) {
                            for (int j = 0; j < 3; j++) {
                                sum += g[k][i][j] * (i == 0 ? 1 : i == 1 ? x : x * x) * (j == 0 ? 1 : j == 1 ? y : y * y);
                            }
                        }
                        root = mod(sum) == 0;
                    }
                    if (root) {
                        here.add(100 * x + y);
                    }
                }
            }
            r.roots.add(here);
            if (!here.isEmpty()) {
                r.solvable |= 1 << t;
            }
        }
    }

    private void findMatrix(Facts r) {
        r.entries = new int[r.s][r.s][7];
        dixonPolynomial().forEach((key, v) -> {
            int row = r.m * digit(key, Y) + digit(key, X);
            int column = 2 * r.m * digit(key, B) + digit(key, A);
            if (digit(key, X) >= r.m || digit(key, A) >= 2 * r.m) {
                throw new IllegalStateException("a term has no place in the matrix");
            }
            r.entries[row][column][digit(key, T)] = v;
        });
    }

    private int[][] matrixAt(Facts r, int t) {
        int[][] values = new int[r.s][r.s];
        for (int row = 0; row < r.s; row++) {
            for (int column = 0; column < r.s; column++) {
                values[row][column] = horner(r.entries[row][column], t);
            }
        }
        return values;
    }

    private static int[][] transposed(int[][] a) {
        int[][] b = new int[a[0].length][a.length];
        for (int row = 0; row < a.length; row++) {
            for (int column = 0; column < a[0].length; column++) {
                b[column][row] = a[row][column];
            }
        }
        return b;
    }

    // Brings a copy of the rows from first to last - 1 into the reduced form and returns the columns of the pivots.
    private List<Integer> pivots(int[][] a, int first, int last, int[][] form) {
        int[][] b = form;
        for (int row = first; row < last; row++) {
            b[row - first] = a[row].clone();
        }
        List<Integer> found = new ArrayList<>();
        int height = last - first;
        for (int column = 0; column < a[0].length && found.size() < height; column++) {
            int rank = found.size();
            int at = rank;
            while (at < height && b[at][column] == 0) {
                at++;
            }
            if (at == height) {
                continue;
            }
            int[] kept = b[at];
            b[at] = b[rank];
            b[rank] = kept;
            int scale = inverse(kept[column]);
            for (int q = 0; q < kept.length; q++) {
                kept[q] = mod((long) kept[q] * scale);
            }
            for (int row = 0; row < height; row++) {
                int factor = b[row][column];
                if (row != rank && factor != 0) {
                    for (int q = 0; q < kept.length; q++) {
                        b[row][q] = mod(b[row][q] - (long) factor * kept[q]);
                    }
                }
            }
            found.add(column);
        }
        return found;
    }

    private int rankOf(int[][] a, int first, int last) {
        return last <= first ? 0 : pivots(a, first, last, new int[last - first][]).size();
    }

    private int independent(int[][] a) {
        int set = 0;
        for (int row = 0; row < a.length; row++) {
            if (rankOf(a, 0, row + 1) > rankOf(a, 0, row)) {
                set |= 1 << row;
            }
        }
        return set;
    }

    private void findRanks(Facts r) {
        r.ranks = new int[p];
        r.below = new int[p];
        int greatestBelow = 0;
        r.rank = -1;
        for (int t = 0; t < p; t++) {
            int[][] a = matrixAt(r, t);
            r.ranks[t] = rankOf(a, 0, r.s);
            greatestBelow = Math.max(greatestBelow, rankOf(a, 1, r.s));
            if (r.ranks[t] > r.rank) {
                r.rank = r.ranks[t];
                r.pivot = t;
            }
        }
        for (int t = 0; t < p; t++) {
            if (r.ranks[t] < r.rank) {
                r.drops |= 1 << t;
            }
        }
        r.condition = greatestBelow < r.rank ? 1 : 0;
        r.rows = independent(matrixAt(r, r.pivot));
        r.columns = independent(transposed(matrixAt(r, r.pivot)));
    }

    // ---- the eliminant: polynomials in t without leading zeros, 0 as an empty row

    private static int[] trimmed(int[] a) {
        int length = a.length;
        while (length > 0 && a[length - 1] == 0) {
            length--;
        }
        return Arrays.copyOf(a, length);
    }

    private int[] product(int[] a, int[] b) {
        int[] c = new int[a.length + b.length];
        for (int i = 0; i < a.length; i++) {
            for (int j = 0; j < b.length; j++) {
                c[i + j] = mod(c[i + j] + (long) a[i] * b[j]);
            }
        }
        return trimmed(c);
    }

    private int[] difference(int[] a, int[] b) {
        int[] c = Arrays.copyOf(a, Math.max(a.length, b.length));
        for (int i = 0; i < b.length; i++) {
            c[i] = mod(c[i] - b[i]);
        }
        return trimmed(c);
    }

    // The quotient, or null if a remainder is left.
    private int[] quotient(int[] a, int[] b) {
        int[] rest = a.clone();
        int[] result = new int[Math.max(0, a.length - b.length + 1)];
        int scale = inverse(b[b.length - 1]);
        for (int q = a.length - b.length; q >= 0; q--) {
            int v = mod((long) rest[q + b.length - 1] * scale);
            result[q] = v;
            for (int i = 0; i < b.length; i++) {
                rest[q + i] = mod(rest[q + i] - (long) v * b[i]);
            }
        }
        return trimmed(rest).length > 0 ? null : trimmed(result);
    }

    private int[] determinant(int[][][] source) {
        int size = source.length;
        int[][][] a = new int[size][size][];
        for (int row = 0; row < size; row++) {
            for (int column = 0; column < size; column++) {
                a[row][column] = trimmed(source[row][column]);
            }
        }
        int[] before = {1};
        int sign = 1;
        for (int step = 0; step + 1 < size; step++) {
            int at = step;
            while (at < size && a[at][step].length == 0) {
                at++;
            }
            if (at == size) {
                return new int[0];
            }
            if (at != step) {
                int[][] kept = a[at];
                a[at] = a[step];
                a[step] = kept;
                sign = -sign;
            }
            for (int row = step + 1; row < size; row++) {
                for (int column = step + 1; column < size; column++) {
                    int[] cross = difference(product(a[row][column], a[step][step]), product(a[row][step], a[step][column]));
                    a[row][column] = quotient(cross, before);
                }
            }
            before = a[step][step];
        }
        return size == 0 ? new int[] {1} : product(a[size - 1][size - 1], new int[] {mod(sign)});
    }

    private void findEliminant(Facts r) {
        int size = Integer.bitCount(r.rows);
        int[][][] minor = new int[size][size][];
        for (int row = 0, i = 0; row < r.s; row++) {
            if ((r.rows >> row & 1) == 0) {
                continue;
            }
            for (int column = 0, j = 0; column < r.s; column++) {
                if ((r.columns >> column & 1) != 0) {
                    minor[i][j++] = r.entries[row][column];
                }
            }
            i++;
        }
        int[] full = determinant(minor);
        int[] rest = full;
        for (int t = 0; t < p; t++) {
            if (horner(full, t) == 0 && r.roots.get(t).isEmpty()) {
                r.extraneous |= 1 << t;
                for (int[] next = quotient(rest, new int[] {mod(-t), 1}); next != null;
                        next = quotient(rest, new int[] {mod(-t), 1})) {
                    rest = next;
                }
            }
        }
        rest = product(rest, new int[] {inverse(rest[rest.length - 1])});
        r.eliminant = Arrays.copyOf(full, 49);
        r.reduced = Arrays.copyOf(rest, 49);
    }

    // ---- the questions about the matrix

    int size() {
        return facts().s == 0 ? STATE : facts().s;
    }

    private int entryFault(int row, int column) {
        Facts r = facts();
        return r.s == 0 ? STATE : out(row, 0, r.s - 1) || out(column, 0, r.s - 1) ? BAD : 0;
    }

    int entry(int row, int column, int e) {
        int fault = out(e, 0, 6) ? BAD : entryFault(row, column);
        return fault != 0 ? fault : facts().entries[row][column][e];
    }

    int entryAt(int row, int column, int t) {
        int fault = notInField(t) ? BAD : entryFault(row, column);
        return fault != 0 ? fault : horner(facts().entries[row][column], t);
    }

    int rankAt(int t) {
        return notInField(t) ? BAD : facts().s == 0 ? STATE : facts().ranks[t];
    }

    int rank() {
        return facts().s == 0 ? STATE : facts().rank;
    }

    int pivotPoint() {
        return facts().s == 0 ? STATE : facts().pivot;
    }

    int selected(boolean rows) {
        return facts().s == 0 ? STATE : rows ? facts().rows : facts().columns;
    }

    int rankDrops() {
        return facts().s == 0 ? STATE : facts().drops;
    }

    int condition() {
        return facts().s == 0 ? STATE : facts().condition;
    }

    private int[] form(boolean reduced) {
        return reduced ? facts().reduced : facts().eliminant;
    }

    int eliminantDegree(boolean reduced) {
        return facts().s == 0 ? STATE : trimmed(form(reduced)).length - 1;
    }

    int eliminant(boolean reduced, int e) {
        return out(e, 0, 48) ? BAD : facts().s == 0 ? STATE : form(reduced)[e];
    }

    int eliminantAt(boolean reduced, int t) {
        return notInField(t) ? BAD : facts().s == 0 ? STATE : horner(form(reduced), t);
    }

    int multiplicity(int c) {
        if (notInField(c)) {
            return BAD;
        }
        if (facts().s == 0) {
            return STATE;
        }
        int times = 0;
        int[] rest = quotient(trimmed(facts().eliminant), new int[] {mod(-c), 1});
        while (rest != null) {
            times++;
            rest = quotient(rest, new int[] {mod(-c), 1});
        }
        return times;
    }

    int extraneous() {
        return facts().s == 0 ? STATE : facts().extraneous;
    }

    int commonRoots(int t) {
        return notInField(t) ? BAD : facts().roots.get(t).size();
    }

    int commonRoot(int t, int index) {
        if (notInField(t) || index < 0) {
            return BAD;
        }
        List<Integer> here = facts().roots.get(t);
        return index < here.size() ? here.get(index) : NONE;
    }

    int solvable() {
        return facts().solvable;
    }

    int kernel(int t) {
        return notInField(t) ? BAD : facts().s == 0 ? STATE : facts().s - facts().ranks[t];
    }

    int recovered(int t, boolean y) {
        if (notInField(t)) {
            return BAD;
        }
        Facts r = facts();
        if (r.s == 0) {
            return STATE;
        }
        if (r.s - r.ranks[t] != 1 || !y && r.m == 1) {
            return NONE;
        }
        int[][] form = new int[r.s][];
        List<Integer> pivots = pivots(transposed(matrixAt(r, t)), 0, r.s, form);
        int[] row = new int[r.s];
        for (int free = 0; free < r.s; free++) {
            if (!pivots.contains(free)) {
                row[free] = 1;
                for (int q = 0; q < pivots.size(); q++) {
                    row[pivots.get(q)] = mod(-form[q][free]);
                }
            }
        }
        return row[0] == 0 ? NONE : mod((long) row[y ? r.m : 1] * inverse(row[0]));
    }

    int confirmed(int t) {
        if (notInField(t)) {
            return BAD;
        }
        if (facts().s == 0) {
            return STATE;
        }
        int x = recovered(t, false);
        int y = recovered(t, true);
        return x >= 0 && y >= 0 && facts().roots.get(t).contains(100 * x + y) ? 1 : 0;
    }

    // ---- history

    int undo() {
        if (saved.isEmpty()) {
            return STATE;
        }
        Saved state = saved.removeLast();
        p = state.p;
        f = state.f;
        facts = null;
        return saved.size();
    }

    int count(int what) {
        switch (what) {
            case 0: return p;
            case 1: return facts().m;
            case 2: return facts().n;
            case 3: return text.length();
            case 4: return saved.size();
            case 5: return terms(0) + terms(1) + terms(2);
            case 6: return facts().roots.stream().mapToInt(List::size).sum();
            default: return BAD;
        }
    }

    long digest() {
        List<Integer> values = new ArrayList<>();
        for (int what = 0; what <= 6; what++) {
            values.add(count(what));
        }
        values.addAll(Arrays.asList(degreeDrops(), solvable(), size()));
        if (facts().s > 0) {
            values.addAll(Arrays.asList(rank(), pivotPoint(), selected(true), selected(false), rankDrops(), condition(),
                    extraneous()));
            for (boolean reduced : new boolean[] {false, true}) {
                values.add(eliminantDegree(reduced));
                for (int e = 0; e <= 48; e++) {
                    values.add(eliminant(reduced, e));
                }
            }
            for (int t = 0; t < p; t++) {
                values.add(confirmed(t));
            }
        }
        long h = 18404;
        for (int v : values) {
            h = 31 * h + v;
        }
        return h;
    }
}
