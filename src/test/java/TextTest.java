/** The text buffer from empty to full, and at each place of a text which characters can stand there. */
public final class TextTest {
    private static final int BAD = -1, FULL = -3;
    private static final String DIGITS = "0123456789";
    private static final String LETTERS = "xyt";
    private static final Expect expect = new Expect("texts");

    public static void main(String[] args) {
        buffer();
        fullBufferStays();
        everyCode();
        nextCharacters();
        faultsAreTheFirst();
        fullTexts();
        spaces();
        numbers();
        exponents();
        everyFactorOrder();
        sums();
        textStays();
        expect.finish();
    }

    private static String repeated(String part, int times) {
        return part.repeat(times);
    }

    private static int reading(String text) {
        DixonEliminator d = new DixonEliminator();
        expect.due("length of '" + text + "'", Given.write(d, text), text.length());
        return d.read(2);
    }

    // ---- the buffer

    private static void buffer() {
        DixonEliminator d = new DixonEliminator();
        expect.due("clearText() of an empty buffer", d.clearText(), 0);
        for (int length = 1; length <= 60; length++) {
            expect.due("type() of character " + length, d.type(31 + length), length);
            expect.due("count(3) after it", d.count(3), length);
        }
        expect.due("type() of character 61", d.type(120), FULL);
        expect.due("type(31) as character 61", d.type(31), BAD);
        expect.due("type(127) as character 61", d.type(127), BAD);
        expect.due("type() of character 61 again", d.type(32), FULL);
        expect.due("count(3) of a full buffer", d.count(3), 60);
        expect.due("clearText() of a full buffer", d.clearText(), 60);
        expect.due("clearText() after it", d.clearText(), 0);
        expect.due("count(3) after it", d.count(3), 0);
        expect.due("read() after it", d.read(0), -10);
        for (int length = 1; length <= 60; length++) {
            expect.due("type() of character " + length + " after it", d.type(121), length);
        }
        expect.due("type() of character 61 after it", d.type(121), FULL);
        expect.due("none of it is a change", d.undo(), -2);
        d.clearText();
        expect.due("type() of one", d.type(120), 1);
        expect.due("clearText() of one", d.clearText(), 1);
    }

    private static void fullBufferStays() {
        DixonEliminator d = new DixonEliminator();
        Given.write(d, repeated(" ", 58) + "7x");
        for (int code : new int[] {120, 50, 32, 43, 31, 127, -1}) {
            expect.holds("type(" + code + ") is refused", d.type(code) < 0);
        }
        expect.due("count(3)", d.count(3), 60);
        expect.due("read() of what was there before", d.read(0), 1);
        expect.due("its coefficient", d.coefficient(0, 1, 0, 0), 7);
    }

    private static void everyCode() {
        DixonEliminator d = new DixonEliminator();
        for (int code = 32; code <= 126; code++) {
            d.clearText();
            expect.due("type(" + code + ")", d.type(code), 1);
            boolean term = DIGITS.indexOf(code) >= 0 || LETTERS.indexOf(code) >= 0;
            boolean early = code == ' ' || code == '+' || code == '-';
            expect.due("read() of the code " + code, d.read(1), term ? code == '0' ? 0 : 1 : early ? -11 : -10);
        }
    }

    // ---- what can stand where

    private static void nextCharacters() {
        String any = DIGITS + LETTERS;
        next("", any, " +-");
        next(" ", any, " +-");
        next("+", any, " ");
        next("-", any, " ");
        next(" - ", any, " ");
        next("7", any + " ", "+-");
        next("77", any + " ", "+-");
        next("777", LETTERS + " ", "+-");
        next("000", LETTERS + " ", "+-");
        next("7 ", LETTERS + " ", "+-");
        next("777 ", LETTERS + " ", "+-");
        next("x", "012yt ", "+-");
        next("y", "012xt ", "+-");
        next("t", "012xy ", "+-");
        next("7x", "012yt ", "+-");
        next("777t", "012xy ", "+-");
        next("x0", "yt ", "+-");
        next("x1", "yt ", "+-");
        next("y2", "xt ", "+-");
        next("t0", "xy ", "+-");
        next("x ", "yt ", "+-");
        next("xy", "012t ", "+-");
        next("xy0", "t ", "+-");
        next("yt1", "x ", "+-");
        next("t x", "012y ", "+-");
        next("t2x2 ", "y ", "+-");
        next("xyt", "012 ", "+-");
        next("tyx2", " ", "+-");
        next("7x0y0t0 ", " ", "+-");
        next("x+", any, " ");
        next("7-", any, " ");
        next("x - ", any, " ");
        next("x+7", any + " ", "+-");
        next("7+777", LETTERS + " ", "+-");
        next("x+y", "012xt ", "+-");
        next("xyt-x", "012yt ", "+-");
        next("777-7 x2", "yt ", "+-");
    }

    // Which characters make the text whole, and which can stand there, but leave it unfinished; all others are a fault.
    private static void next(String begun, String whole, String unfinished) {
        for (int code = 32; code <= 126; code++) {
            String text = begun + (char) code;
            int got = reading(text);
            if (whole.indexOf(code) >= 0) {
                expect.holds("read() of '" + text + "', " + got + ", finds no fault", got >= 0 && got <= 3);
            } else {
                int fault = unfinished.indexOf(code) >= 0 ? text.length() : begun.length();
                expect.due("read() of '" + text + "'", got, -10 - fault);
            }
        }
    }

    private static void faultsAreTheFirst() {
        String[] rests = {"", "x", " ", "+y", "?", "1", " + "};
        for (String rest : rests) {
            expect.due("read() of 'x3" + rest + "'", reading("x3" + rest), -11);
            expect.due("read() of '1000" + rest + "'", reading("1000" + rest), -13);
            expect.due("read() of 'x00" + rest + "'", reading("x00" + rest), -12);
            expect.due("read() of '7 7" + rest + "'", reading("7 7" + rest), -12);
            expect.due("read() of 'x 2" + rest + "'", reading("x 2" + rest), -12);
            expect.due("read() of 'xyx" + rest + "'", reading("xyx" + rest), -12);
            expect.due("read() of '+-" + rest + "'", reading("+-" + rest), -11);
            expect.due("read() of '*" + rest + "'", reading("*" + rest), -10);
            expect.due("read() of ' y  - *" + rest + "'", reading(" y  - *" + rest), -16);
        }
    }

    // ---- texts of 60 characters, and of one less

    private static void fullTexts() {
        expect.due("59 spaces", reading(repeated(" ", 59)), -69);
        expect.due("60 spaces", reading(repeated(" ", 60)), -70);
        expect.due("x behind 59 spaces", reading(repeated(" ", 59) + "x"), 1);
        expect.due("x before 59 spaces", reading("x" + repeated(" ", 59)), 1);
        expect.due("a fault as the last of 60", reading(repeated(" ", 59) + "?"), -69);
        expect.due("a sign as the last of 60", reading(repeated("x+", 30)), -70);
        expect.due("a sign as the last of 59", reading("7" + repeated("+x", 28) + "0-"), -69);
        expect.due("a second factor x as the last of 60", reading(repeated("x+", 29) + "xx"), -69);
        expect.due("a fourth digit as the last of 60", reading(repeated("x+", 28) + "1000"), -69);
        expect.due("a third digit as the last of 60", reading(repeated("x+", 28) + " 999"), 2);
        expect.due("an exponent as the last of 60", reading(repeated("x+", 29) + "y2"), 2);
        expect.due("an exponent of 3 as the last of 60", reading(repeated("x+", 29) + "y3"), -69);
        expect.due("30 terms", reading(repeated("+x", 30)), 1);
        expect.due("30 numbers", reading(repeated("-9", 30)), 1);
        DixonEliminator d = new DixonEliminator();
        Given.write(d, repeated("-9", 30));
        d.read(0);
        expect.due("-270", d.coefficient(0, 0, 0, 0), 9);
        Given.write(d, "999x2y2t2+999x2y2t1+999x2y2t0+999x2y1t2+999x2y0t2+999x1y1t1 ");
        expect.due("six long terms", d.read(1), 6);
        expect.due("the first of them", d.coefficient(1, 2, 2, 2), 7);
        expect.due("the last of them", d.coefficient(1, 1, 1, 1), 7);
    }

    private static void spaces() {
        expect.due("spaces in all places", reading("   -   12   x2   y   t0   +   3   -   t   "), 3);
        expect.due("no spaces", reading("-12x2yt0+3-t"), 3);
        expect.due("a space in a number of two digits", reading("1 2"), -12);
        expect.due("a space in a number of three digits", reading("12 3"), -13);
        expect.due("a space before an exponent", reading("y 1"), -12);
        expect.due("spaces before a second term without a sign", reading("x   7"), -14);
        expect.due("spaces alone before a sign at the end", reading("x   -"), -15);
        expect.due("a space behind a sign at the end", reading("x- "), -13);
    }

    // ---- what is read

    private static int coefficientOf(String text, int i, int j, int e) {
        DixonEliminator d = new DixonEliminator();
        Given.put(d, 0, text);
        return d.coefficient(0, i, j, e);
    }

    private static void numbers() {
        for (int number = 0; number <= 999; number++) {
            expect.due("the number " + number, coefficientOf("" + number, 0, 0, 0), number % 31);
        }
        for (String number : new String[] {"0", "1", "9", "00", "01", "30", "31", "62", "99", "000", "001", "100", "999"}) {
            int value = Integer.parseInt(number);
            expect.due(number + " y", coefficientOf(number + " y", 0, 1, 0), value % 31);
            expect.due("-" + number + "xt", coefficientOf("-" + number + "xt", 1, 0, 1), Math.floorMod(-value, 31));
            expect.due("number of terms of " + number, reading(number), value % 31 == 0 ? 0 : 1);
        }
        for (int p : Given.PRIMES) {
            DixonEliminator d = new DixonEliminator();
            d.setPrime(p);
            Given.put(d, 2, p + "x + " + (p - 1) + "y - " + (p + 1) + "t - 999");
            expect.due("p = " + p + ": p", d.coefficient(2, 1, 0, 0), 0);
            expect.due("p = " + p + ": p - 1", d.coefficient(2, 0, 1, 0), p - 1);
            expect.due("p = " + p + ": -(p + 1)", d.coefficient(2, 0, 0, 1), p - 1);
            expect.due("p = " + p + ": -999", d.coefficient(2, 0, 0, 0), Math.floorMod(-999, p));
        }
    }

    private static void exponents() {
        String[] signs = {"0", "1", "2", ""};
        int[] exponents = {0, 1, 2, 1};
        for (int a = 0; a < 4; a++) {
            for (int b = 0; b < 4; b++) {
                for (int c = 0; c < 4; c++) {
                    String text = "5x" + signs[a] + "y" + signs[b] + "t" + signs[c];
                    expect.due("read() of " + text, reading(text), 1);
                    expect.due(text, coefficientOf(text, exponents[a], exponents[b], exponents[c]), 5);
                }
            }
        }
    }

    private static void everyFactorOrder() {
        for (String text : new String[] {"xy2t0", "xt0y2", "y2xt0", "y2t0x", "t0xy2", "t0y2x"}) {
            expect.due(text, coefficientOf(text, 1, 2, 0), 1);
            expect.due("-3 " + text, coefficientOf("-3 " + text + " + 0", 1, 2, 0), 28);
        }
    }

    private static void sums() {
        for (int p : Given.PRIMES) {
            DixonEliminator d = new DixonEliminator();
            d.setPrime(p);
            Given.put(d, 0, repeated("999+", 14) + "999");
            expect.due("p = " + p + ": 15 * 999", d.coefficient(0, 0, 0, 0), 15 * 999 % p);
            Given.put(d, 0, "-999" + repeated("-999", 14));
            expect.due("p = " + p + ": -15 * 999", d.coefficient(0, 0, 0, 0), Math.floorMod(-15 * 999, p));
            Given.write(d, (p - 1) + "x + x + 0");
            expect.due("p = " + p + ": terms of p * x", d.read(0), 0);
            Given.write(d, "y0 - x0 + t - t1 + x2y - y1x2t0");
            expect.due("p = " + p + ": terms that cancel out", d.read(0), 0);
        }
    }

    // The text belongs to no state: it is neither changed by changes nor restored.
    private static void textStays() {
        DixonEliminator d = new DixonEliminator();
        Given.write(d, "30x - y");
        expect.due("read(0)", d.read(0), 2);
        expect.due("read(1)", d.read(1), 2);
        expect.due("read(2)", d.read(2), 2);
        expect.due("setPrime(7)", d.setPrime(7), 31);
        expect.due("count(3) after setPrime", d.count(3), 7);
        expect.due("read(0) with p = 7", d.read(0), 2);
        expect.due("30 with p = 7", d.coefficient(0, 1, 0, 0), 2);
        d.setPrime(5);
        expect.due("read(0) with p = 5", d.read(0), 1);
        d.type('?');
        expect.due("undo()", d.undo(), 6);
        expect.due("count(3) after undo()", d.count(3), 8);
        expect.due("read(0) after undo()", d.read(0), -17);
        d.clearText();
        expect.due("undo()", d.undo(), 5);
        expect.due("count(3) after clearText() and undo()", d.count(3), 0);
    }
}
