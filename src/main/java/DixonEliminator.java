import java.util.Arrays;

/**
 * Elimination by Dixon matrices: x and y are eliminated from three polynomial equations in x and y
 * with a parameter t, over the field of p elements.
 */
public final class DixonEliminator {
    public static final int BAD = -1, STATE = -2, FULL = -3, NONE = -9;

    private static final int POLYNOMIALS = 3;
    private static final int LAST = 2; // the last polynomial and the greatest exponent alike
    private static final int PLACES = 27; // the coefficient of x^i * y^j * t^e stands at 9 * i + 3 * j + e
    private static final int FIELD = 31; // the most elements that the field has
    private static final int SIDE = 8; // the most rows of a Dixon matrix
    private static final int ENTRY = 7; // the coefficients of an entry
    private static final int TERMS = 49; // the coefficients of an eliminant
    private static final int ROOM = 60; // the most characters of the text buffer
    private static final int STATES = 8; // the most states that are remembered

    private final Polynomials now;
    private final History past;
    private final Text text;
    private final Roots roots;
    private final DixonMatrix matrix;
    private final Ranks ranks;
    private final Eliminant minor;

    public DixonEliminator() {
        Polynomials polynomials = new Polynomials();
        DixonMatrix dixonMatrix = new DixonMatrix(polynomials);
        Ranks allRanks = new Ranks(polynomials, dixonMatrix);
        now = polynomials;
        past = new History();
        text = new Text();
        roots = new Roots(polynomials);
        matrix = dixonMatrix;
        ranks = allRanks;
        minor = new Eliminant(polynomials, dixonMatrix, allRanks);
    }

    // ---- polynomials

    public int setPrime(int p) {
        if (!isPrime(p)) {
            return BAD;
        }
        int before = now.p;
        beginChange();
        now.p = p;
        now.erase();
        return before;
    }

    public int type(int code) {
        if (code < 32 || code > 126) {
            return BAD;
        }
        return text.append(code) ? text.length : FULL;
    }

    public int clearText() {
        int before = text.length;
        text.length = 0;
        return before;
    }

    public int read(int k) {
        if (outside(k, LAST)) {
            return BAD;
        }
        int fault = text.parse(now.p);
        if (fault >= 0) {
            return -10 - fault;
        }
        beginChange();
        now.replace(k, text.sum);
        return now.termCount(k);
    }

    public int setCoefficient(int k, int i, int j, int e, int v) {
        if (noTerm(k, i, j, e) || outside(v, now.p - 1)) {
            return BAD;
        }
        int before = now.term(k, place(i, j, e));
        beginChange();
        now.setTerm(k, place(i, j, e), v);
        return before;
    }

    public int coefficient(int k, int i, int j, int e) {
        if (noTerm(k, i, j, e)) {
            return BAD;
        }
        return now.term(k, place(i, j, e));
    }

    public int draw(int seed, int u, int v, int w, int thin) {
        if (outside(u, LAST) || outside(v, LAST) || outside(w, LAST) || thin < 1 || thin > 9) {
            return BAD;
        }
        beginChange();
        now.scatter(seed, u, v, w, thin);
        return now.termCountOfAll();
    }

    public int plant(int x, int y, int t) {
        if (outside(x, now.p - 1) || outside(y, now.p - 1) || outside(t, now.p - 1)) {
            return BAD;
        }
        beginChange();
        int others = 0;
        for (int k = 0; k < POLYNOMIALS; k++) {
            int surplus = now.valueOf(k, x, y, t);
            if (surplus != 0) {
                others++;
                now.setTerm(k, 0, Modulo.residue(now.term(k, 0) - surplus, now.p));
            }
        }
        return others;
    }

    public int swap(int k, int l) {
        if (outside(k, LAST) || outside(l, LAST)) {
            return BAD;
        }
        beginChange();
        return now.exchange(k, l) ? 1 : 0;
    }

    public int combine(int k, int l, int c, int i, int j, int e) {
        if (noTerm(k, i, j, e) || outside(l, LAST) || k == l || outside(c, now.p - 1)) {
            return BAD;
        }
        if (c != 0 && now.leavesRange(l, i, j, e)) {
            return FULL;
        }
        beginChange();
        now.addMultiple(k, l, c, place(i, j, e));
        return now.termCount(k);
    }

    public int shift(int c) {
        if (outside(c, now.p - 1)) {
            return BAD;
        }
        beginChange();
        now.substitute(c);
        return now.termCountOfAll();
    }

    public int value(int k, int x, int y, int t) {
        if (outside(k, LAST) || outside(x, now.p - 1) || outside(y, now.p - 1) || outside(t, now.p - 1)) {
            return BAD;
        }
        return now.valueOf(k, x, y, t);
    }

    public int degree(int k, int variable) {
        if (outside(k, LAST) || outside(variable, 2)) {
            return BAD;
        }
        return now.degreeIn(k, variable);
    }

    public int degreeAt(int k, int variable, int t) {
        if (outside(k, LAST) || outside(variable, 1) || outside(t, now.p - 1)) {
            return BAD;
        }
        return now.degreeInAt(k, variable, t);
    }

    public int degreeDrops() {
        int set = 0;
        for (int t = 0; t < now.p; t++) {
            if (now.dropsAt(t)) {
                set |= 1 << t;
            }
        }
        return set;
    }

    // ---- the Dixon matrix

    public int size() {
        return noMatrix() ? STATE : matrix.side;
    }

    public int entry(int row, int column, int e) {
        if (outside(e, ENTRY - 1)) {
            return BAD;
        }
        if (noMatrix()) {
            return STATE;
        }
        if (outside(row, matrix.side - 1) || outside(column, matrix.side - 1)) {
            return BAD;
        }
        return matrix.termAt(row, column, e);
    }

    public int entryAt(int row, int column, int t) {
        if (outside(t, now.p - 1)) {
            return BAD;
        }
        if (noMatrix()) {
            return STATE;
        }
        if (outside(row, matrix.side - 1) || outside(column, matrix.side - 1)) {
            return BAD;
        }
        return Modulo.horner(matrix.at(row, column), t, now.p);
    }

    public int rankAt(int t) {
        if (outside(t, now.p - 1)) {
            return BAD;
        }
        if (noMatrix()) {
            return STATE;
        }
        ranks.examine(t);
        return ranks.rankOf(t);
    }

    public int rank() {
        if (noMatrix()) {
            return STATE;
        }
        ranks.survey();
        return ranks.greatest;
    }

    public int pivotPoint() {
        if (noMatrix()) {
            return STATE;
        }
        ranks.survey();
        return ranks.pivot;
    }

    public int selected(boolean rows) {
        if (noMatrix()) {
            return STATE;
        }
        ranks.survey();
        return rows ? ranks.rowSet : ranks.columnSet;
    }

    public int rankDrops() {
        if (noMatrix()) {
            return STATE;
        }
        ranks.survey();
        return ranks.dropSet;
    }

    public int condition() {
        if (noMatrix()) {
            return STATE;
        }
        ranks.survey();
        return ranks.greatestWithoutFirst < ranks.greatest ? 1 : 0;
    }

    // ---- the eliminant

    public int eliminantDegree(boolean reduced) {
        if (noMatrix()) {
            return STATE;
        }
        return Modulo.topOf(form(reduced));
    }

    public int eliminant(boolean reduced, int e) {
        if (outside(e, TERMS - 1)) {
            return BAD;
        }
        if (noMatrix()) {
            return STATE;
        }
        int[] terms = form(reduced);
        return e < terms.length ? terms[e] : 0;
    }

    public int eliminantAt(boolean reduced, int t) {
        if (outside(t, now.p - 1)) {
            return BAD;
        }
        if (noMatrix()) {
            return STATE;
        }
        return Modulo.horner(form(reduced), t, now.p);
    }

    public int multiplicity(int c) {
        if (outside(c, now.p - 1)) {
            return BAD;
        }
        if (noMatrix()) {
            return STATE;
        }
        form(false);
        return minor.multiplicityOf(c);
    }

    public int extraneous() {
        if (noMatrix()) {
            return STATE;
        }
        form(true);
        return minor.extraneousSet;
    }

    // ---- common roots

    public int commonRoots(int t) {
        if (outside(t, now.p - 1)) {
            return BAD;
        }
        roots.search(t);
        return roots.countAt(t);
    }

    public int commonRoot(int t, int index) {
        if (outside(t, now.p - 1) || index < 0) {
            return BAD;
        }
        roots.search(t);
        return roots.rootAt(t, index);
    }

    public int solvable() {
        int set = 0;
        for (int t = 0; t < now.p; t++) {
            roots.search(t);
            if (roots.countAt(t) > 0) {
                set |= 1 << t;
            }
        }
        return set;
    }

    public int kernel(int t) {
        if (outside(t, now.p - 1)) {
            return BAD;
        }
        if (noMatrix()) {
            return STATE;
        }
        ranks.examine(t);
        return matrix.side - ranks.rankOf(t);
    }

    public int recovered(int t, boolean y) {
        if (outside(t, now.p - 1)) {
            return BAD;
        }
        if (noMatrix()) {
            return STATE;
        }
        ranks.examine(t);
        return ranks.coordinate(t, y);
    }

    public int confirmed(int t) {
        if (outside(t, now.p - 1)) {
            return BAD;
        }
        if (noMatrix()) {
            return STATE;
        }
        ranks.examine(t);
        int x = ranks.coordinate(t, false);
        int y = ranks.coordinate(t, true);
        if (x == NONE || y == NONE) {
            return 0;
        }
        boolean root = now.valueOf(0, x, y, t) == 0 && now.valueOf(1, x, y, t) == 0 && now.valueOf(2, x, y, t) == 0;
        return root ? 1 : 0;
    }

    // ---- history

    public int undo() {
        if (past.held == 0) {
            return STATE;
        }
        past.restore(now);
        forgetResults();
        return past.held;
    }

    public int count(int what) {
        switch (what) {
            case 0:
                return now.p;
            case 1:
                return now.greatestDegree(0);
            case 2:
                return now.greatestDegree(1);
            case 3:
                return text.length;
            case 4:
                return past.held;
            case 5:
                return now.termCountOfAll();
            case 6:
                return countPairs();
            default:
                return BAD;
        }
    }

    public long digest() {
        long h = 18404;
        for (int what = 0; what <= 6; what++) {
            h = 31 * h + count(what);
        }
        h = 31 * h + degreeDrops();
        h = 31 * h + solvable();
        h = 31 * h + size();
        if (noMatrix()) {
            return h;
        }
        h = 31 * h + rank();
        h = 31 * h + pivotPoint();
        h = 31 * h + selected(true);
        h = 31 * h + selected(false);
        h = 31 * h + rankDrops();
        h = 31 * h + condition();
        h = 31 * h + extraneous();
        h = 31 * h + eliminantDegree(false);
        for (int e = 0; e < TERMS; e++) {
            h = 31 * h + eliminant(false, e);
        }
        h = 31 * h + eliminantDegree(true);
        for (int e = 0; e < TERMS; e++) {
            h = 31 * h + eliminant(true, e);
        }
        for (int t = 0; t < now.p; t++) {
            h = 31 * h + confirmed(t);
        }
        return h;
    }

    // ---- what the methods of the face share

    private static boolean outside(int number, int last) {
        return number < 0 || number > last;
    }

    private static boolean noTerm(int k, int i, int j, int e) {
        return outside(k, LAST) || outside(i, LAST) || outside(j, LAST) || outside(e, LAST);
    }

    private static int place(int i, int j, int e) {
        return 9 * i + 3 * j + e;
    }

    private static boolean isPrime(int p) {
        switch (p) {
            case 5:
            case 7:
            case 11:
            case 13:
            case 17:
            case 19:
            case 23:
            case 29:
            case 31:
                return true;
            default:
                return false;
        }
    }

    // Called only when a change is certain to succeed: what fails must not be remembered.
    private void beginChange() {
        past.remember(now);
        forgetResults();
    }

    private void forgetResults() {
        roots.forget();
        matrix.forget();
        ranks.forget();
        minor.forget();
    }

    private boolean noMatrix() {
        if (!matrix.ready) {
            matrix.measure();
            matrix.fill();
        }
        return matrix.side == 0;
    }

    private int[] form(boolean reduced) {
        ranks.survey();
        minor.compute();
        if (!reduced) {
            return minor.whole;
        }
        minor.reduce(roots);
        return minor.rest;
    }

    private int countPairs() {
        int pairs = 0;
        for (int t = 0; t < now.p; t++) {
            roots.search(t);
            pairs += roots.countAt(t);
        }
        return pairs;
    }

    /** Arithmetic in the field of p elements, and with polynomials in t as rows of coefficients. */
    static final class Modulo {
        static int residue(int number, int p) {
            if (p < 1) {
                return 0;
            }
            int rest = number % p;
            return rest < 0 ? rest + p : rest;
        }

        static int inverse(int number, int p) {
            for (int candidate = 1; candidate < p; candidate++) {
                if (number * candidate % p == 1) {
                    return candidate;
                }
            }
            return 0;
        }

        static int horner(int[] terms, int t, int p) {
            if (terms == null || p < 1) {
                return 0;
            }
            int sum = 0;
            for (int e = terms.length - 1; e >= 0; e--) {
                sum = (sum * t + terms[e]) % p;
            }
            return sum;
        }

        static int topOf(int[] terms) {
            if (terms == null) {
                return 0;
            }
            for (int e = terms.length - 1; e > 0; e--) {
                if (terms[e] != 0) {
                    return e;
                }
            }
            return 0;
        }

        // Leaves sums that are not reduced: a few products fit in an int, and one reduction then serves them all.
        static void addProduct(int[] sum, int[] f, int[] g, int sign) {
            if (sum == null || f == null || g == null || sum.length < f.length + g.length - 1) {
                return;
            }
            for (int a = 0; a < f.length; a++) {
                int factor = sign * f[a];
                if (factor != 0) {
                    for (int b = 0; b < g.length; b++) {
                        sum[a + b] += factor * g[b];
                    }
                }
            }
        }

        static void reduceAll(int[] terms, int p) {
            if (terms == null) {
                return;
            }
            for (int e = 0; e < terms.length; e++) {
                terms[e] = residue(terms[e], p);
            }
        }

        // Divides by t - c as often as no remainder is left, and tells how often this was.
        static int strip(int[] terms, int c, int p) {
            if (terms == null) {
                return 0;
            }
            int times = 0;
            while (times < terms.length && horner(terms, c, p) == 0) {
                divideByRoot(terms, c, p);
                times++;
            }
            return times;
        }

        private static void divideByRoot(int[] terms, int c, int p) {
            int carried = 0;
            for (int e = terms.length - 1; e >= 0; e--) {
                int next = residue(terms[e] + c * carried, p);
                terms[e] = carried;
                carried = next;
            }
        }
    }

    /** The state that changes and that undo restores: p and the coefficients. */
    static final class Polynomials {
        int p = FIELD;
        private final int[][] terms = new int[POLYNOMIALS][PLACES];

        int[] termsOf(int k) {
            return k < 1 ? terms[0] : k < 2 ? terms[1] : terms[2];
        }

        int term(int k, int place) {
            return place >= 0 && place < PLACES ? termsOf(k)[place] : 0;
        }

        void setTerm(int k, int place, int v) {
            if (place >= 0 && place < PLACES) {
                termsOf(k)[place] = v;
            }
        }

        void erase() {
            for (int k = 0; k < POLYNOMIALS; k++) {
                Arrays.fill(terms[k], 0);
            }
        }

        void replace(int k, int[] source) {
            int[] row = termsOf(k);
            for (int place = 0; source != null && place < row.length && place < source.length; place++) {
                row[place] = source[place];
            }
        }

        void copyFrom(Polynomials other) {
            p = other.p;
            for (int k = 0; k < POLYNOMIALS; k++) {
                replace(k, other.termsOf(k));
            }
        }

        int termCount(int k) {
            int[] row = termsOf(k);
            int found = 0;
            for (int place = 0; place < row.length; place++) {
                if (row[place] != 0) {
                    found++;
                }
            }
            return found;
        }

        int termCountOfAll() {
            return termCount(0) + termCount(1) + termCount(2);
        }

        void scatter(int seed, int u, int v, int w, int thin) {
            if (p < 1) {
                return;
            }
            int z = seed;
            for (int k = 0; k < POLYNOMIALS; k++) {
                for (int place = 0; place < PLACES; place++) {
                    z = z * 1103515245 + 12345;
                    int number = (z >>> 16) & 32767;
                    boolean inside = place / 9 <= u && place / 3 % 3 <= v && place % 3 <= w;
                    boolean kept = inside && Modulo.residue(number / p, thin) == 0;
                    terms[k][place] = kept ? number % p : 0;
                }
            }
        }

        boolean exchange(int k, int l) {
            int[] first = termsOf(k);
            int[] second = termsOf(l);
            boolean different = false;
            for (int place = 0; place < first.length && place < second.length; place++) {
                int kept = first[place];
                different = different || kept != second[place];
                first[place] = second[place];
                second[place] = kept;
            }
            return different;
        }

        boolean leavesRange(int l, int i, int j, int e) {
            int[] row = termsOf(l);
            for (int place = 0; place < row.length; place++) {
                boolean inside = place / 9 + i <= LAST && place / 3 % 3 + j <= LAST && place % 3 + e <= LAST;
                if (row[place] != 0 && !inside) {
                    return true;
                }
            }
            return false;
        }

        void addMultiple(int k, int l, int c, int offset) {
            int[] target = termsOf(k);
            int[] source = termsOf(l);
            for (int from = 0; from < source.length; from++) {
                int to = from + offset;
                if (source[from] != 0 && to >= 0 && to < target.length) {
                    target[to] = Modulo.residue(target[to] + c * source[from], p);
                }
            }
        }

        void substitute(int c) {
            for (int k = 0; k < POLYNOMIALS; k++) {
                int[] row = terms[k];
                for (int e = 0; e + 2 < row.length; e += 3) {
                    row[e] = Modulo.residue(row[e] + c * (row[e + 1] + c * row[e + 2]), p);
                    row[e + 1] = Modulo.residue(row[e + 1] + 2 * c * row[e + 2], p);
                }
            }
        }

        int valueOf(int k, int x, int y, int t) {
            int sum = 0;
            for (int i = LAST; i >= 0; i--) {
                int inner = 0;
                for (int j = LAST; j >= 0; j--) {
                    inner = Modulo.residue(inner * y + factorAt(k, 3 * i + j, t), p);
                }
                sum = Modulo.residue(sum * x + inner, p);
            }
            return sum;
        }

        // The coefficient of x^i * y^j, with power = 3 * i + j, for a number t.
        int factorAt(int k, int power, int t) {
            int[] row = termsOf(k);
            int first = 3 * power;
            if (first < 0 || first + 2 >= row.length) {
                return 0;
            }
            return Modulo.residue(row[first] + t * (row[first + 1] + t * row[first + 2]), p);
        }

        int degreeIn(int k, int variable) {
            int[] row = termsOf(k);
            int greatest = 0;
            for (int place = 0; place < row.length; place++) {
                if (row[place] != 0) {
                    int exponent = variable == 0 ? place / 9 : variable == 1 ? place / 3 % 3 : place % 3;
                    greatest = Math.max(greatest, exponent);
                }
            }
            return greatest;
        }

        int degreeInAt(int k, int variable, int t) {
            int greatest = 0;
            for (int power = 0; power < 9; power++) {
                if (factorAt(k, power, t) != 0) {
                    greatest = Math.max(greatest, variable == 0 ? power / 3 : power % 3);
                }
            }
            return greatest;
        }

        int greatestDegree(int variable) {
            return Math.max(degreeIn(0, variable), Math.max(degreeIn(1, variable), degreeIn(2, variable)));
        }

        boolean dropsAt(int t) {
            for (int k = 0; k < POLYNOMIALS; k++) {
                if (degreeInAt(k, 0, t) < degreeIn(k, 0) || degreeInAt(k, 1, t) < degreeIn(k, 1)) {
                    return true;
                }
            }
            return false;
        }
    }

    /** The states before the latest changes, in a ring that is made once. */
    static final class History {
        int held;
        private int next;
        private final Polynomials[] states = new Polynomials[STATES];

        History() {
            for (int slot = 0; slot < STATES; slot++) {
                states[slot] = new Polynomials();
            }
        }

        private Polynomials stateIn(int slot) {
            return slot >= 0 && slot < STATES ? states[slot] : null;
        }

        void remember(Polynomials source) {
            Polynomials state = stateIn(next);
            if (state != null) {
                state.copyFrom(source);
            }
            next = next + 1 < STATES ? next + 1 : 0;
            held = Math.min(held + 1, STATES);
        }

        void restore(Polynomials target) {
            if (held == 0) {
                return;
            }
            next = next > 0 ? next - 1 : STATES - 1;
            held--;
            Polynomials state = stateIn(next);
            if (state != null) {
                target.copyFrom(state);
            }
        }
    }

    /** The text buffer, and its reading as a polynomial. */
    static final class Text {
        int length;
        final int[] sum = new int[PLACES];
        private final int[] codes = new int[ROOM];
        private int position;

        boolean append(int code) {
            if (length < 0 || length >= ROOM) {
                return false;
            }
            codes[length] = code;
            length++;
            return true;
        }

        // Returns the position of the fault, or -1 if there is none; the polynomial is in sum then.
        int parse(int p) {
            position = 0;
            Arrays.fill(sum, 0);
            skipSpaces();
            int sign = takeSign();
            for (int term = 0; term <= ROOM; term++) {
                skipSpaces();
                if (!takeTerm(sign < 0, p)) {
                    return position;
                }
                skipSpaces();
                if (position >= length) {
                    return -1;
                }
                sign = takeSign();
                if (sign == 0) {
                    return position;
                }
            }
            return position;
        }

        private int peek() {
            return position >= 0 && position < length && position < ROOM ? codes[position] : -1;
        }

        private void skipSpaces() {
            while (position < length && peek() == ' ') {
                position++;
            }
        }

        // Returns 1 or -1, or 0 if there is no sign.
        private int takeSign() {
            int code = peek();
            if (code != '+' && code != '-') {
                return 0;
            }
            position++;
            return code == '+' ? 1 : -1;
        }

        private boolean takeTerm(boolean minus, int p) {
            int number = takeNumber();
            int place = takeFactors();
            if (number < 0 && place < 0) {
                return false;
            }
            int size = number < 0 ? 1 : number;
            int at = Math.max(place, 0);
            if (at < sum.length) {
                sum[at] = Modulo.residue(sum[at] + (minus ? -size : size), p);
            }
            return true;
        }

        // Returns -1 if there is no number. A fourth digit is left: nothing that can follow begins with it.
        private int takeNumber() {
            int number = -1;
            for (int digits = 0; digits < 3; digits++) {
                int code = peek();
                if (code < '0' || code > '9') {
                    return number;
                }
                number = Math.max(number, 0) * 10 + code - '0';
                position++;
            }
            return number;
        }

        // Returns the place of the product of the factors, or -1 if there is none.
        private int takeFactors() {
            int used = 0;
            int place = 0;
            for (int factor = 0; factor < 3; factor++) {
                skipSpaces();
                int letter = letterOf(peek());
                if (letter < 0 || (used >> letter & 1) != 0) {
                    break;
                }
                used |= 1 << letter;
                position++;
                int exponent = takeExponent();
                place += letter == 0 ? 9 * exponent : letter == 1 ? 3 * exponent : exponent;
            }
            return used == 0 ? -1 : place;
        }

        private static int letterOf(int code) {
            return code == 'x' ? 0 : code == 'y' ? 1 : code == 't' ? 2 : -1;
        }

        private int takeExponent() {
            int code = peek();
            if (code < '0' || code > '2') {
                return 1;
            }
            position++;
            return code - '0';
        }
    }

    /** The common roots, searched for one t at a time and kept until the next change. */
    static final class Roots {
        private final Polynomials polynomials;
        private final int[][] ordinates = new int[FIELD][FIELD]; // for t and x the set of all y
        private final int[][] atPoint = new int[POLYNOMIALS][9]; // the polynomials in x and y that are left for t
        private final int[][] inY = new int[POLYNOMIALS][3]; // the polynomials in y that are left for t and x
        private int searched; // the set of all t whose roots are known

        Roots(Polynomials polynomials) {
            this.polynomials = polynomials;
        }

        void forget() {
            searched = 0;
        }

        void search(int t) {
            if (t < 0 || t >= FIELD || (searched >> t & 1) != 0) {
                return;
            }
            for (int k = 0; k < POLYNOMIALS; k++) {
                for (int power = 0; power < 9; power++) {
                    atPoint[k][power] = polynomials.factorAt(k, power, t);
                }
            }
            int[] row = ordinates[t];
            for (int x = 0; x < row.length; x++) {
                row[x] = x < polynomials.p ? ordinatesOf(x) : 0;
            }
            searched |= 1 << t;
        }

        private int ordinatesOf(int x) {
            int p = polynomials.p;
            for (int k = 0; k < POLYNOMIALS; k++) {
                int[] f = atPoint[k];
                for (int j = 0; j < 3; j++) {
                    inY[k][j] = Modulo.residue(f[j] + x * (f[3 + j] + x * f[6 + j]), p);
                }
            }
            int set = 0;
            for (int y = 0; y < p; y++) {
                if (Modulo.horner(inY[0], y, p) == 0 && Modulo.horner(inY[1], y, p) == 0
                        && Modulo.horner(inY[2], y, p) == 0) {
                    set |= 1 << y;
                }
            }
            return set;
        }

        int countAt(int t) {
            if (t < 0 || t >= FIELD) {
                return 0;
            }
            int found = 0;
            int[] row = ordinates[t];
            for (int x = 0; x < row.length; x++) {
                found += Integer.bitCount(row[x]);
            }
            return found;
        }

        int rootAt(int t, int index) {
            if (t < 0 || t >= FIELD) {
                return NONE;
            }
            int[] row = ordinates[t];
            int left = index;
            for (int x = 0; x < row.length; x++) {
                int here = Integer.bitCount(row[x]);
                if (left < here) {
                    return 100 * x + memberOf(row[x], left);
                }
                left -= here;
            }
            return NONE;
        }

        private static int memberOf(int set, int index) {
            int left = index;
            for (int y = 0; y < FIELD; y++) {
                if ((set >> y & 1) != 0) {
                    if (left == 0) {
                        return y;
                    }
                    left--;
                }
            }
            return 0;
        }
    }

    /** The Dixon matrix, whose entries are polynomials in t. */
    static final class DixonMatrix {
        int m;
        int n;
        int side; // 0 if there is no Dixon matrix
        boolean ready; // whether what stands here fits the polynomials
        private final Polynomials polynomials;
        private final int[][] entries = new int[SIDE * SIDE][ENTRY];
        private final int[][] cross = new int[POLYNOMIALS][5];
        private final int[] bracket = new int[ENTRY];

        DixonMatrix(Polynomials polynomials) {
            this.polynomials = polynomials;
        }

        void forget() {
            ready = false;
        }

        int[] at(int row, int column) {
            int index = SIDE * row + column;
            return index >= 0 && index < entries.length ? entries[index] : entries[0];
        }

        int termAt(int row, int column, int e) {
            int[] terms = at(row, column);
            return e >= 0 && e < terms.length ? terms[e] : 0;
        }

        void measure() {
            m = polynomials.greatestDegree(0);
            n = polynomials.greatestDegree(1);
            side = m >= 1 && n >= 1 ? 2 * m * n : 0;
        }

        // The quotient is itself a determinant, whose rows are (F(x, y) - F(a, y)) / (x - a),
        // (F(a, y) - F(a, b)) / (y - b) and F(a, b) with F = (f, g, h): no division is left to do.
        // A power 3 * i + j stands for the coefficients of x^i * y^j. The first row has only those with i > 0,
        // the second row only those with j > 0.
        void fill() {
            ready = true;
            for (int index = 0; index < entries.length; index++) {
                Arrays.fill(entries[index], 0);
            }
            for (int first = 3; side > 0 && first < 9; first++) {
                for (int second = 0; second < 9; second++) {
                    if (second % 3 > 0 && multiplyAcross(first, second)) {
                        for (int third = 0; third < 9; third++) {
                            closeBracket(third);
                            addBracket(first, second, third);
                        }
                    }
                }
            }
        }

        // Returns false if the cross product of the two rows is 0.
        private boolean multiplyAcross(int first, int second) {
            boolean other = false;
            for (int k = 0; k < POLYNOMIALS; k++) {
                int[] up = polynomials.termsOf((k + 1) % 3);
                int[] down = polynomials.termsOf((k + 2) % 3);
                int[] sum = cross[k];
                Arrays.fill(sum, 0);
                addCrossTerms(sum, up, first, down, second, 1);
                addCrossTerms(sum, down, first, up, second, -1);
                Modulo.reduceAll(sum, polynomials.p);
                for (int e = 0; e < sum.length; e++) {
                    other = other || sum[e] != 0;
                }
            }
            return other;
        }

        private static void addCrossTerms(int[] sum, int[] f, int first, int[] g, int second, int sign) {
            int left = 3 * first;
            int right = 3 * second;
            if (left < 0 || left + 2 >= f.length || right < 0 || right + 2 >= g.length || sum.length < 5) {
                return;
            }
            for (int a = 0; a < 3; a++) {
                for (int b = 0; b < 3; b++) {
                    sum[a + b] += sign * f[left + a] * g[right + b];
                }
            }
        }

        private void closeBracket(int third) {
            Arrays.fill(bracket, 0);
            for (int k = 0; k < POLYNOMIALS; k++) {
                int[] row = polynomials.termsOf(k);
                int[] factor = cross[k];
                for (int e = 0; e < 3; e++) {
                    int place = 3 * third + e;
                    int number = place >= 0 && place < row.length ? row[place] : 0;
                    for (int a = 0; number != 0 && a < factor.length && a + e < bracket.length; a++) {
                        bracket[a + e] += number * factor[a];
                    }
                }
            }
            Modulo.reduceAll(bracket, polynomials.p);
        }

        // (x^i - a^i) / (x - a) is 1 or x + a, and so with y and b.
        private void addBracket(int first, int second, int third) {
            for (int moved = 0; moved < first / 3; moved++) {
                for (int turned = 0; turned < second % 3; turned++) {
                    int x = first / 3 - 1 - moved;
                    int y = first % 3 + second % 3 - 1 - turned;
                    int a = moved + second / 3 + third / 3;
                    int b = turned + third % 3;
                    // What lies outside cancels out in the sum of all brackets.
                    if (x < m && y < 2 * n && a < 2 * m && b < n) {
                        addTo(at(m * y + x, 2 * m * b + a));
                    }
                }
            }
        }

        private void addTo(int[] target) {
            for (int e = 0; e < target.length && e < bracket.length; e++) {
                target[e] = Modulo.residue(target[e] + bracket[e], polynomials.p);
            }
        }

        // Writes a row of the matrix at t, and behind it the row of the unit matrix with the same number.
        void writeRow(int row, int t, int[] target) {
            Arrays.fill(target, 0);
            for (int column = 0; column < side && column < target.length; column++) {
                target[column] = Modulo.horner(at(row, column), t, polynomials.p);
            }
            int unit = SIDE + row;
            if (unit >= 0 && unit < target.length) {
                target[unit] = 1;
            }
        }

        void writeColumn(int column, int t, int[] target) {
            Arrays.fill(target, 0);
            for (int row = 0; row < side && row < target.length; row++) {
                target[row] = Modulo.horner(at(row, column), t, polynomials.p);
            }
        }
    }

    /** The linear span of the vectors taken so far. Behind each vector stands how it was combined. */
    static final class Span {
        int found;
        final int[] vector = new int[2 * SIDE];
        private final int[] relation = new int[SIDE];
        private final int[][] basis = new int[SIDE][2 * SIDE];
        private final int[] leads = new int[SIDE];
        private int p;

        void begin(int prime) {
            found = 0;
            p = prime;
            Arrays.fill(relation, 0);
        }

        // Takes the vector, and tells whether it is no linear combination of those before.
        boolean take() {
            for (int b = 0; b < found && b < SIDE; b++) {
                int[] row = basis[b];
                int at = Math.min(Math.max(leads[b], 0), SIDE - 1);
                int factor = vector[at];
                int scale = row[at];
                for (int q = 0; factor != 0 && q < vector.length && q < row.length; q++) {
                    vector[q] = Modulo.residue(scale * vector[q] - factor * row[q], p);
                }
            }
            int lead = leadOf();
            if (lead < 0 || found < 0 || found >= SIDE) {
                System.arraycopy(vector, SIDE, relation, 0, SIDE);
                return false;
            }
            System.arraycopy(vector, 0, basis[found], 0, 2 * SIDE);
            leads[found] = lead;
            found++;
            return true;
        }

        private int leadOf() {
            for (int q = 0; q < SIDE; q++) {
                if (vector[q] != 0) {
                    return q;
                }
            }
            return -1;
        }

        // The given number of the latest relation, if this is scaled so that its number 0 is 1; else NONE.
        int ratio(int number) {
            if (number < 0 || number >= relation.length || relation[0] == 0) {
                return NONE;
            }
            return Modulo.residue(relation[number] * Modulo.inverse(relation[0], p), p);
        }
    }

    /** The ranks of the matrix at each t, and what follows from them. */
    static final class Ranks {
        int greatest;
        int greatestWithoutFirst;
        int pivot;
        int rowSet;
        int columnSet;
        int dropSet;
        private final Polynomials polynomials;
        private final DixonMatrix matrix;
        private final Span span = new Span();
        private final int[] rankAtPoint = new int[FIELD];
        private final int[] rankWithoutFirst = new int[FIELD];
        private final int[] abscissa = new int[FIELD];
        private final int[] ordinate = new int[FIELD];
        private int examined; // the set of all t that have been examined
        private boolean surveyed;

        Ranks(Polynomials polynomials, DixonMatrix matrix) {
            this.polynomials = polynomials;
            this.matrix = matrix;
        }

        void forget() {
            examined = 0;
            surveyed = false;
        }

        // Row 0 is taken last, so that the rank without it is known on the way.
        void examine(int t) {
            if (t < 0 || t >= FIELD || (examined >> t & 1) != 0) {
                return;
            }
            span.begin(polynomials.p);
            for (int row = 1; row < matrix.side; row++) {
                matrix.writeRow(row, t, span.vector);
                span.take();
            }
            rankWithoutFirst[t] = span.found;
            matrix.writeRow(0, t, span.vector);
            span.take();
            rankAtPoint[t] = span.found;
            boolean single = span.found == matrix.side - 1;
            abscissa[t] = single && matrix.m == 2 ? span.ratio(1) : NONE;
            ordinate[t] = single ? span.ratio(matrix.m) : NONE;
            examined |= 1 << t;
        }

        int rankOf(int t) {
            return t >= 0 && t < FIELD ? rankAtPoint[t] : 0;
        }

        int coordinate(int t, boolean y) {
            if (t < 0 || t >= FIELD) {
                return NONE;
            }
            return y ? ordinate[t] : abscissa[t];
        }

        void survey() {
            if (surveyed) {
                return;
            }
            surveyed = true;
            greatest = 0;
            greatestWithoutFirst = 0;
            pivot = 0;
            for (int t = 0; t < polynomials.p && t < FIELD; t++) {
                examine(t);
                greatestWithoutFirst = Math.max(greatestWithoutFirst, rankWithoutFirst[t]);
                if (rankAtPoint[t] > greatest) {
                    greatest = rankAtPoint[t];
                    pivot = t;
                }
            }
            findDrops();
            selectRows();
            selectColumns();
        }

        private void findDrops() {
            dropSet = 0;
            for (int t = 0; t < polynomials.p && t < FIELD; t++) {
                if (rankAtPoint[t] < greatest) {
                    dropSet |= 1 << t;
                }
            }
        }

        private void selectRows() {
            rowSet = 0;
            span.begin(polynomials.p);
            for (int row = 0; row < matrix.side; row++) {
                matrix.writeRow(row, pivot, span.vector);
                if (span.take()) {
                    rowSet |= 1 << row;
                }
            }
        }

        private void selectColumns() {
            columnSet = 0;
            span.begin(polynomials.p);
            for (int column = 0; column < matrix.side; column++) {
                matrix.writeColumn(column, pivot, span.vector);
                if (span.take()) {
                    columnSet |= 1 << column;
                }
            }
        }
    }

    /** The eliminant as a minor of the Dixon matrix, whole and reduced. */
    static final class Eliminant {
        final int[] whole = new int[TERMS];
        final int[] rest = new int[TERMS];
        int extraneousSet;
        private final Polynomials polynomials;
        private final DixonMatrix matrix;
        private final Ranks ranks;
        private final int[] quotient = new int[TERMS];
        private final int[] rows = new int[SIDE];
        private final int[] columns = new int[SIDE];
        private final int[][] minors = new int[1 << SIDE][]; // for a set of columns that of as many first rows
        private boolean computed;
        private boolean cleared;

        Eliminant(Polynomials polynomials, DixonMatrix matrix, Ranks ranks) {
            this.polynomials = polynomials;
            this.matrix = matrix;
            this.ranks = ranks;
            for (int set = 0; set < minors.length; set++) {
                minors[set] = new int[(ENTRY - 1) * Integer.bitCount(set) + 1];
            }
        }

        void forget() {
            computed = false;
            cleared = false;
        }

        // The field may have fewer elements than the determinant has coefficients, so that it can't be
        // interpolated: it is expanded along its last row, minor by minor, without a division.
        void compute() {
            if (computed) {
                return;
            }
            computed = true;
            int order = Math.min(listMembers(ranks.rowSet, rows), listMembers(ranks.columnSet, columns));
            Arrays.fill(whole, 0);
            for (int set = 0; set < minors.length && set < 1 << order; set++) {
                expand(set);
            }
            int[] determinant = minors[(1 << order) - 1 & minors.length - 1];
            for (int e = 0; determinant != null && e < determinant.length && e < whole.length; e++) {
                whole[e] = determinant[e];
            }
        }

        private static int listMembers(int set, int[] target) {
            int found = 0;
            for (int number = 0; number < SIDE; number++) {
                if ((set >> number & 1) != 0 && found < target.length) {
                    target[found] = number;
                    found++;
                }
            }
            return found;
        }

        private void expand(int set) {
            int[] sum = minors[set & minors.length - 1];
            if (sum == null || sum.length == 0) {
                return;
            }
            Arrays.fill(sum, 0);
            int last = Integer.bitCount(set) - 1;
            if (last < 0 || last >= rows.length) {
                sum[0] = 1;
                return;
            }
            for (int c = 0; c < columns.length; c++) {
                if ((set >> c & 1) != 0) {
                    int behind = Integer.bitCount(set >> c + 1);
                    int[] smaller = minors[(set ^ 1 << c) & minors.length - 1];
                    Modulo.addProduct(sum, matrix.at(rows[last], columns[c]), smaller, behind % 2 == 0 ? 1 : -1);
                }
            }
            Modulo.reduceAll(sum, polynomials.p);
        }

        int multiplicityOf(int c) {
            System.arraycopy(whole, 0, quotient, 0, TERMS);
            return Modulo.strip(quotient, c, polynomials.p);
        }

        void reduce(Roots roots) {
            if (cleared) {
                return;
            }
            cleared = true;
            extraneousSet = 0;
            int p = polynomials.p;
            System.arraycopy(whole, 0, rest, 0, TERMS);
            for (int t = 0; t < p; t++) {
                if (Modulo.horner(whole, t, p) == 0) {
                    roots.search(t);
                    if (roots.countAt(t) == 0) {
                        extraneousSet |= 1 << t;
                        Modulo.strip(rest, t, p);
                    }
                }
            }
            divideByLeading(p);
        }

        private void divideByLeading(int p) {
            int top = Modulo.topOf(rest);
            int factor = top >= 0 && top < TERMS ? Modulo.inverse(rest[top], p) : 0;
            for (int e = 0; e < TERMS; e++) {
                rest[e] = Modulo.residue(rest[e] * factor, p);
            }
        }
    }
}
