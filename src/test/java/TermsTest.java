import java.math.BigDecimal;
import java.math.BigInteger;

/** The document's "Terms", sentence by sentence, each with its boundary cases and with answers written out. */
public final class TermsTest {
    private static final long WIDE_GREATEST = 0x7FEFFFFFFFFFFFFFL;
    private static final long WIDE_INFINITE = 0x7FF0000000000000L;
    private static final long WIDE_NONE = 0x7FF8000000000000L;
    private static final long WIDE_SIGN = 0x8000000000000000L;
    private static final long NARROW_GREATEST = 0x7F7FFFFFL;
    private static final long NARROW_INFINITE = 0x7F800000L;
    private static final long NARROW_NONE = 0x7FC00000L;
    private static final long NARROW_SIGN = 0x80000000L;

    public static void main(String[] args) {
        callsOfAnObject();
        wideNumbers();
        narrowNumbers();
        signs();
        bitsAboveNarrowOnes();
        theText();
        blanksAround();
        signOfNumeral();
        words();
        suffixes();
        decimalForms();
        exponents();
        hexadecimalForms();
        sizesOfDecimals();
        sizesOfHexadecimals();
        greatAndSmall();
        nearestOfAll();
        evenF();
        infiniteFrom();
        Due.end();
    }

    private static void callsOfAnObject() {
        Due.sentence("An object is used for at most 512 calls");
        NearestReader x = new NearestReader();
        for (int i = 1; i <= 300; i++) {
            Due.due("call " + i + ", write", x.write(0x3939393939393939L), true);
        }
        for (int i = 301; i <= 505; i++) {
            Due.due("call " + i + ", a reading", (i & 1) == 1 ? x.wide() : x.narrow(), true);
        }
        Due.due("call 506, readings()", x.readings(), 205);
        Due.due("call 507, keep(3)", x.keep(3), true);
        Due.due("call 508, wide()", x.wide(), true);
        Due.due("call 509, bits()", x.bits(), 0x408F380000000000L);
        Due.due("call 510, quotient(1, 2, true)", x.quotient(1, 2, true), 0x3FE0000000000000L);
        Due.due("call 511, length()", x.length(), 3);
        Due.due("call 512, readings()", x.readings(), 206);
    }

    private static void wideNumbers() {
        Due.sentence("WIDE: with E 1 .. 2046 it is (2^52 + F) * 2^(E - 1075)");
        Due.wide("0x10000000000000p-1074", 0x0010000000000000L);
        Due.wide("0x1fffffffffffffp-1074", 0x001FFFFFFFFFFFFFL);
        Due.wide("0x10000000000000p-1073", 0x0020000000000000L);
        Due.wide("0x10000000000000p971", 0x7FE0000000000000L);
        Due.wide("0x1fffffffffffffp971", WIDE_GREATEST);
        Due.wide("1", 0x3FF0000000000000L);
        Due.wide(exactly(1, -1022), 0x0010000000000000L);
        Due.wide(exactly((1L << 53) - 1, 971), WIDE_GREATEST);
        ordered(true, 0x000FFFFFFFFFFFFFL, 0x0010000000000000L, 0x0010000000000001L, 0x001FFFFFFFFFFFFFL,
            0x0020000000000000L, 0x7FDFFFFFFFFFFFFFL, 0x7FE0000000000000L, WIDE_GREATEST, WIDE_INFINITE);

        Due.sentence("WIDE: with E 0 it is F * 2^-1074");
        Due.wide("0x1p-1074", 1);
        Due.wide("0x2p-1074", 2);
        Due.wide("0x8000000000000p-1074", 0x0008000000000000L);
        Due.wide("0xfffffffffffffp-1074", 0x000FFFFFFFFFFFFFL);
        Due.wide(exactly(1, -1074), 1);
        Due.wide(exactly((1L << 52) - 1, -1074), 0x000FFFFFFFFFFFFFL);
        ordered(true, 0, 1, 2, 0x0007FFFFFFFFFFFFL, 0x0008000000000000L, 0x000FFFFFFFFFFFFFL);

        Due.sentence("WIDE: with E 2047 it is INFINITE if F is 0, else NONE");
        NearestReader x = new NearestReader();
        Due.due("narrowed(E 2047, F 0)", x.narrowed(WIDE_INFINITE), NARROW_INFINITE);
        Due.due("compare(E 2047, F 0, itself)", x.compare(WIDE_INFINITE, WIDE_INFINITE, true), 0);
        for (long f : new long[] {1, 2, 1L << 50, 1L << 51, (1L << 51) + 1, (1L << 52) - 1}) {
            for (long sign : new long[] {0, WIDE_SIGN}) {
                long none = sign | WIDE_INFINITE | f;
                Due.due("narrowed(E 2047, F " + f + ")", x.narrowed(none), NARROW_NONE);
                Due.due("compare(E 2047, F " + f + ", itself)", x.compare(none, none, true), 2);
            }
        }
        Due.due("compare(E 2046, F most, itself)", x.compare(WIDE_GREATEST, WIDE_GREATEST, true), 0);
    }

    private static void narrowNumbers() {
        Due.sentence("NARROW: with E 1 .. 254 it is (2^23 + F) * 2^(E - 150)");
        Due.narrow("0x800000p-149", 0x00800000L);
        Due.narrow("0xffffffp-149", 0x00FFFFFFL);
        Due.narrow("0x800000p-148", 0x01000000L);
        Due.narrow("0x800000p104", 0x7F000000L);
        Due.narrow("0xffffffp104", NARROW_GREATEST);
        Due.narrow("1", 0x3F800000L);
        Due.narrow(exactly(1, -126), 0x00800000L);
        Due.narrow(exactly((1L << 24) - 1, 104), NARROW_GREATEST);
        widened(0x00800000L, 0x3810000000000000L);
        widened(0x00FFFFFFL, 0x381FFFFFE0000000L);
        widened(0x01000000L, 0x3820000000000000L);
        widened(0x3F800000L, 0x3FF0000000000000L);
        widened(0x7F000000L, 0x47E0000000000000L);
        widened(NARROW_GREATEST, 0x47EFFFFFE0000000L);
        ordered(false, 0x007FFFFFL, 0x00800000L, 0x00800001L, 0x00FFFFFFL, 0x01000000L, 0x7EFFFFFFL, 0x7F000000L,
            NARROW_GREATEST, NARROW_INFINITE);

        Due.sentence("NARROW: with E 0 it is F * 2^-149");
        Due.narrow("0x1p-149", 1);
        Due.narrow("0x2p-149", 2);
        Due.narrow("0x400000p-149", 0x00400000L);
        Due.narrow("0x7fffffp-149", 0x007FFFFFL);
        Due.narrow(exactly(1, -149), 1);
        Due.narrow(exactly((1L << 23) - 1, -149), 0x007FFFFFL);
        widened(0, 0);
        widened(1, 0x36A0000000000000L);
        widened(2, 0x36B0000000000000L);
        widened(3, 0x36B8000000000000L);
        widened(0x00400000L, 0x3800000000000000L);
        widened(0x007FFFFFL, 0x380FFFFFC0000000L);
        ordered(false, 0, 1, 2, 0x003FFFFFL, 0x00400000L, 0x007FFFFFL);

        Due.sentence("NARROW: with E 255 it is INFINITE if F is 0, else NONE");
        widened(NARROW_INFINITE, WIDE_INFINITE);
        NearestReader x = new NearestReader();
        Due.due("compare(E 255, F 0, itself)", x.compare(NARROW_INFINITE, NARROW_INFINITE, false), 0);
        for (long f : new long[] {1, 2, 1L << 21, 1L << 22, (1L << 22) + 1, (1L << 23) - 1}) {
            for (long sign : new long[] {0, NARROW_SIGN}) {
                long none = sign | NARROW_INFINITE | f;
                Due.due("widened(E 255, F " + f + ")", x.widened(none), WIDE_NONE);
                Due.due("compare(E 255, F " + f + ", itself)", x.compare(none, none, false), 2);
            }
        }
        Due.due("compare(E 254, F most, itself)", x.compare(NARROW_GREATEST, NARROW_GREATEST, false), 0);
    }

    private static void signs() {
        Due.sentence("Sign 1 is below 0");
        NearestReader x = new NearestReader();
        Due.due("compare(-2^-1074, 0, true)", x.compare(WIDE_SIGN | 1, 0, true), -1);
        Due.due("compare(-2^-149, 0, false)", x.compare(NARROW_SIGN | 1, 0, false), -1);
        Due.due("compare(-INFINITE, 0, true)", x.compare(WIDE_SIGN | WIDE_INFINITE, 0, true), -1);
        Due.due("compare(-INFINITE, 0, false)", x.compare(NARROW_SIGN | NARROW_INFINITE, 0, false), -1);
        Due.due("quotient(-1, 1, true)", x.quotient(-1, 1, true), 0xBFF0000000000000L);
        Due.due("quotient(-1, 1, false)", x.quotient(-1, 1, false), 0xBF800000L);
        Due.wide("-1", 0xBFF0000000000000L);
        Due.narrow("-1", 0xBF800000L);

        Due.sentence("(also for F and E 0, which is 0)");
        Due.wide("-0", WIDE_SIGN);
        Due.narrow("-0", NARROW_SIGN);
        Due.due("narrowed(-0)", x.narrowed(WIDE_SIGN), NARROW_SIGN);
        Due.due("widened(-0)", x.widened(NARROW_SIGN), WIDE_SIGN);
        Due.due("compare(-0, 0, true)", x.compare(WIDE_SIGN, 0, true), 0);
        Due.due("compare(-0, 2^-1074, true)", x.compare(WIDE_SIGN, 1, true), -1);
        Due.due("compare(-0, -2^-1074, true)", x.compare(WIDE_SIGN, WIDE_SIGN | 1, true), 1);
        Due.due("compare(-0, 2^-149, false)", x.compare(NARROW_SIGN, 1, false), -1);
        Due.due("compare(-0, -2^-149, false)", x.compare(NARROW_SIGN, NARROW_SIGN | 1, false), 1);
    }

    private static void bitsAboveNarrowOnes() {
        Due.sentence("those above [a NARROW number's 32 bits] are 0 where one is answered");
        Due.narrow("-1", 0xBF800000L);
        Due.narrow("-0", NARROW_SIGN);
        Due.narrow("-Infinity", 0xFF800000L);
        Due.narrow("-1e-99", NARROW_SIGN);
        Due.narrow("-1e99", 0xFF800000L);
        Due.narrow("-NaN", NARROW_NONE);
        NearestReader x = new NearestReader();
        Due.due("narrowed(-1)", x.narrowed(0xBFF0000000000000L), 0xBF800000L);
        Due.due("narrowed(-0)", x.narrowed(WIDE_SIGN), NARROW_SIGN);
        Due.due("narrowed(-INFINITE)", x.narrowed(WIDE_SIGN | WIDE_INFINITE), 0xFF800000L);
        Due.due("narrowed(-greatest)", x.narrowed(WIDE_SIGN | WIDE_GREATEST), 0xFF800000L);
        Due.due("narrowed(NONE, all bits)", x.narrowed(-1L), NARROW_NONE);
        Due.due("quotient(-1, 3, false)", x.quotient(-1, 3, false), 0xBEAAAAABL);
        Due.due("quotient(-1, 0, false)", x.quotient(-1, 0, false), 0xFF800000L);
        Due.due("quotient(0, 0, false)", x.quotient(0, 0, false), NARROW_NONE);
        Due.sentence("the whole result is a NARROW one after narrow(), whatever it was before");
        Due.write(x, "-1e300");
        Due.due("wide()", x.wide(), true);
        Due.due("bits()", x.bits(), 0xFE37E43C8800759CL);
        Due.due("narrow()", x.narrow(), true);
        Due.due("bits() then", x.bits(), 0xFF800000L);

        Due.sentence("and not looked at where one is given");
        for (long above : new long[] {1L << 32, 1L << 63, -1L << 32, 0x7FF0000000000000L, 0x5A5A5A5A00000000L}) {
            for (long narrow : new long[] {0, 1, 0x3F800000L, 0xBF800000L, NARROW_SIGN, NARROW_GREATEST, NARROW_INFINITE,
                    0xFF800000L, NARROW_NONE, 0xFFFFFFFFL}) {
                String named = above + " | " + narrow;
                int itself = (narrow & 0x7FFFFFFFL) > NARROW_INFINITE ? 2 : 0;
                Due.due("widened(" + named + ")", x.widened(above | narrow), x.widened(narrow));
                x = new NearestReader();
                Due.due("compare(" + named + ", below)", x.compare(above | narrow, narrow, false), itself);
                Due.due("compare(below, " + named + ")", x.compare(narrow, above | narrow, false), itself);
                Due.due("compare(" + named + ", 2)", x.compare(above | narrow, 2, false), x.compare(narrow, 2, false));
                Due.due("compare(2, " + named + ")", x.compare(2, above | narrow, false), x.compare(2, narrow, false));
            }
            widened(above | 0xBF800000L, 0xBFF0000000000000L);
            Due.due("compare(1, 2, false)", x.compare(above | 0x3F800000L, 0x40000000L, false), -1);
            Due.due("compare(2, 1, false)", x.compare(0x40000000L, above | 0x3F800000L, false), 1);
        }
    }

    private static void theText() {
        Due.sentence("THE TEXT has at most 2400 characters");
        String full = "0".repeat(2399) + "7";
        Due.says(full, 7);
        Due.says("7" + " ".repeat(2399), 7);
        Due.says(" ".repeat(2399) + "7", 7);
        NearestReader x = Due.holding(full);
        Due.due("the 2401st", x.write('1'), false);
        Due.due("length()", x.length(), 2400);

        Due.sentence("numbers 1 .. 255");
        for (int c = 1; c <= 255; c++) {
            NearestReader one = new NearestReader();
            Due.due("write of character " + c, one.write((long) c << 56 | '5'), true);
            Due.due("length() with character " + c, one.length(), 2);
            boolean before = c <= 32 || c == '+' || c == '-' || c == '.' || c >= '0' && c <= '9';
            Due.due("wide() with character " + c, one.wide(), before);
        }
    }

    private static void blanksAround() {
        Due.sentence("without the characters 1 .. 32 at its beginning and at its end");
        for (char c = 1; c <= 32; c++) {
            Due.says(c + "-2.5", -2.5);
            Due.says("-2.5" + c, -2.5);
            Due.says("" + c + c + "-2.5e0f" + c + c, -2.5);
            Due.says("" + c + (char) (33 - c) + "0x1p1" + (char) (33 - c) + c, 2);
            Due.none(String.valueOf(c));
            Due.none("-" + c + "2.5");
            Due.none("2" + c + ".5");
            Due.none("2.5" + c + "f");
            Due.none("2.5" + c + "1");
            Due.none("2.5e" + c + "1");
            Due.none("0x1p" + c + "1");
            Due.none("0x" + c + "1p1");
            Due.none("Na" + c + "N");
        }
        Due.wide(" NaN\t", WIDE_NONE);
        Due.narrow("\n-Infinity ", 0xFF800000L);
        Due.none(" ".repeat(2400));
        Due.says(" ".repeat(1200) + "4" + "\t".repeat(1199), 4);
        for (char c : new char[] {33, 127, 128, 133, 159, 160, 173, 255}) {
            Due.none(c + "2.5");
            Due.none("2.5" + c);
        }
    }

    private static void signOfNumeral() {
        Due.sentence("a sign (+ or -) or none");
        Due.says("2", 2);
        Due.says("+2", 2);
        Due.says("-2", -2);
        Due.says("+.5", 0.5);
        Due.says("-.5", -0.5);
        Due.says("+0x1p1", 2);
        Due.says("-0x1p1", -2);
        Due.says("+0", 0.0);
        Due.says("-0", -0.0);
        for (String text : new String[] {"+", "-", "++2", "--2", "+-2", "-+2", "2-", "2+", "0-", "0x-1p1", "0x+1p1", ".-5",
                "-+NaN", "--Infinity", "NaN-"}) {
            Due.none(text);
        }
        Due.sentence("the - of an exponent is no sign of the number");
        Due.says("25e-1", 2.5);
        Due.says("0x5p-1", 2.5);
        Due.says("0e-1", 0.0);
    }

    private static void words() {
        Due.sentence("and then NaN, or Infinity");
        Due.wide("NaN", WIDE_NONE);
        Due.wide("+NaN", WIDE_NONE);
        Due.narrow("NaN", NARROW_NONE);
        Due.wide("Infinity", WIDE_INFINITE);
        Due.wide("+Infinity", WIDE_INFINITE);
        Due.wide("-Infinity", 0xFFF0000000000000L);
        Due.narrow("Infinity", NARROW_INFINITE);
        for (String word : new String[] {"NaN", "Infinity"}) {
            for (int i = 0; i < word.length(); i++) {
                String other = Character.isUpperCase(word.charAt(i)) ? word.substring(i, i + 1).toLowerCase()
                    : word.substring(i, i + 1).toUpperCase();
                Due.none(word.substring(0, i));
                Due.none(word.substring(i + 1));
                Due.none(word.substring(0, i) + word.substring(i + 1));
                Due.none(word.substring(0, i) + other + word.substring(i + 1));
                Due.none(word.substring(0, i) + "?" + word.substring(i + 1));
            }
            for (String behind : new String[] {"f", "F", "d", "D", "N", "y", "1", ".", "e1", "()", word}) {
                Due.none(word + behind);
                Due.none("-" + word + behind);
            }
            for (String before : new String[] {"1", "0", ".", "0x", "1e"}) {
                Due.none(before + word);
            }
        }
    }

    private static void suffixes() {
        Due.sentence("or a LITERAL and behind it f, F, d, D or nothing");
        for (String literal : new String[] {"2", "2.", "2.0", ".2e1", "2e0", "20E-1", "0x1p1", "0x1.P1", "0x.8p2"}) {
            Due.says(literal, 2);
            for (char suffix : new char[] {'f', 'F', 'd', 'D'}) {
                Due.says(literal + suffix, 2);
                Due.says("-" + literal + suffix, -2);
                for (char other : new char[] {'f', 'F', 'd', 'D', '0', '.', 'e', 'p', '-'}) {
                    Due.none(literal + suffix + other);
                }
            }
            for (char no : new char[] {'l', 'L', 'a', 'b', 'c', 'g', 'G', 'C', 'x', 'n', 'N', 'I', ',', '_', '?'}) {
                Due.none(literal + no);
            }
        }
        for (String alone : new String[] {"f", "F", "d", "D", "-f", "+D", ".f", "0xf", "0xd"}) {
            Due.none(alone);
        }
        Due.sentence("behind it f or d says nothing of the kind that is read");
        Due.wide("0.1f", 0x3FB999999999999AL);
        Due.wide("0.1d", 0x3FB999999999999AL);
        Due.narrow("0.1f", 0x3DCCCCCDL);
        Due.narrow("0.1d", 0x3DCCCCCDL);
    }

    private static void decimalForms() {
        Due.sentence("A LITERAL is a DECIMAL one: DIGITS (one or more 0 .. 9)");
        for (int i = 0; i <= 9; i++) {
            Due.says(String.valueOf(i), i);
        }
        Due.says("1234567", 1234567);
        Due.none("");
        Due.none("/");
        Due.none(":");
        Due.none("a");
        Due.none("1a");

        Due.sentence("or DIGITS and a point, or DIGITS, a point and DIGITS, or a point and DIGITS");
        Due.says("4.", 4);
        Due.says("40.", 40);
        Due.says("4.0", 4);
        Due.says("40.25", 40.25);
        Due.says(".5", 0.5);
        Due.says(".25", 0.25);
        for (String text : new String[] {".", "-.", "..", "4..", "..4", ".4.", "4..5", "4.5.", "4.5.6", "4,5", ".e1",
                "..e1"}) {
            Due.none(text);
        }
    }

    private static void exponents() {
        Due.sentence("then an EXPONENT or nothing: e or E, a sign or none, DIGITS");
        for (String digits : new String[] {"4", "4.", "4.0", ".4"}) {
            double one = digits.equals(".4") ? 0.4 : 4;
            Due.says(digits + "e0", one);
            Due.says(digits + "E0", one);
            Due.wide(digits + "e1", Double.doubleToRawLongBits(one * 10));
            Due.wide(digits + "E+1", Double.doubleToRawLongBits(one * 10));
            Due.wide(digits + "e-1", Double.doubleToRawLongBits(one / 10));
            Due.wide(digits + "E-01", Double.doubleToRawLongBits(one / 10));
            for (String exponent : new String[] {"e", "E", "e+", "E-", "e++1", "e--1", "e+-1", "ee1", "e1e1", "e1.", "e.1",
                    "e1.0", "e1-", "eA", "e0x1", "ef", "e+d", "p1", "P1", "e 1"}) {
                Due.none(digits + exponent);
            }
        }
        Due.none("e1");
        Due.none("E+1");
        Due.none("-e1");
    }

    private static void hexadecimalForms() {
        Due.sentence("Or a HEXADECIMAL one: 0x or 0X, then HEX DIGITS (one or more 0 .. 9, a .. f, A .. F)");
        String digits = "0123456789abcdef";
        for (int i = 0; i < 16; i++) {
            Due.says("0x" + digits.charAt(i) + "p0", i);
            Due.says("0X" + digits.toUpperCase().charAt(i) + "P0", i);
            Due.says("0x1" + digits.charAt(i) + "p0", 16 + i);
        }
        for (char c : new char[] {'/', ':', '@', 'G', '`', 'g', 'x', ' ', '-'}) {
            Due.none("0x" + c + "p0");
            Due.none("0x1" + c + "p0");
            Due.none("0x1." + c + "p0");
        }
        for (String text : new String[] {"0x", "0xp0", "0X", "0XP0", "x1p0", "X1p0", "1x1p0", "00x1p0", "0x0x1p0", "Ox1p0",
                ".0x1p0", "0.x1p0", "1p0", "ap0", "fp0"}) {
            Due.none(text);
        }

        Due.sentence("or these and a point, or these, a point and HEX DIGITS, or a point and HEX DIGITS");
        Due.says("0xA.p0", 10);
        Due.says("0xA.8p0", 10.5);
        Due.says("0x.8p0", 0.5);
        Due.says("0x.0fp4", 0.9375);
        for (String text : new String[] {"0x.p0", "0x..p0", "0xA..p0", "0x..8p0", "0xA.8.p0", "0x.8.p0", "0x1.8.8p0"}) {
            Due.none(text);
        }

        Due.sentence("then p or P, a sign or none, DIGITS");
        Due.says("0x3p1", 6);
        Due.says("0x3P1", 6);
        Due.says("0x3p+1", 6);
        Due.says("0x3P-1", 1.5);
        Due.says("0x3p00", 3);
        for (String literal : new String[] {"0x3", "0x3.", "0x3.8", "0x.8", "0XF"}) {
            for (String power : new String[] {"", "f", "d", "F", "D", "p", "P", "p+", "P-", "p++1", "p-+1", "pp1", "p1p1",
                    "p1.", "p.1", "p1.0", "pA", "p1A", "pf", "p-d", "p0x1", "p 1", "+1", "-1"}) {
                Due.none(literal + power);
            }
        }
        Due.none("0x3e1");
        Due.none("0x3e+1");
    }

    private static void sizesOfDecimals() {
        Due.sentence("A DECIMAL literal says the number that it is for everybody, to the EXPONENT's power of ten");
        Due.says("010", 10);
        Due.says("0000000000000000000000010", 10);
        Due.says("10.50", 10.5);
        Due.says("0.5", 0.5);
        Due.says("00.0625", 0.0625);
        Due.says("1e3", 1000);
        Due.says("1.5e3", 1500);
        Due.says("1500e-3", 1.5);
        Due.says(".0015e3", 1.5);
        Due.says("15e-1", 1.5);
        Due.says("1.e03", 1000);
        Due.says("1e010", 1e10);
        Due.says("0e5", 0);
        Due.says("0.000e-5", 0);
    }

    private static void sizesOfHexadecimals() {
        Due.sentence("A HEXADECIMAL one says its number to the base 16, times 2 to the power behind p");
        Due.says("0x10p0", 16);
        Due.says("0xffp0", 255);
        Due.says("0x1p10", 1024);
        Due.says("0x1p010", 1024);
        Due.says("0x1p-10", 0.0009765625);
        Due.says("0x.1p0", 0.0625);
        Due.says("0x0.01p8", 1);
        Due.says("0x100p-8", 1);
        Due.says("0x1e2p0", 482);
        Due.says("0x1.dp0", 1.8125);
        Due.says("0x1.fp0f", 1.9375);
        Due.says("0x0p9", 0);
    }

    private static void greatAndSmall() {
        Due.sentence("Its size may be of any greatness or smallness");
        String most = "9".repeat(2390);
        String zeros = "0".repeat(2380);
        for (String great : new String[] {"1e309", "1e400", "1e999999", "1e1000001", "1e2147483648", "1e4294967296",
                "1e18446744073709551616", "1e" + most, most, "1" + zeros, "0x1p1024", "0x1p2147483648", "0x1p4294967296",
                "0x1p18446744073709551616", "0x1p" + most, "0x1" + zeros + "p0", "." + zeros + "1e9999999"}) {
            Due.wide(great, WIDE_INFINITE);
            Due.wide("-" + great, WIDE_SIGN | WIDE_INFINITE);
            Due.narrow(great, NARROW_INFINITE);
            Due.narrow("-" + great, NARROW_SIGN | NARROW_INFINITE);
        }
        for (String small : new String[] {"1e-324", "1e-400", "1e-999999", "1e-1000001", "1e-2147483648", "1e-2147483649",
                "1e-4294967296", "1e-18446744073709551616", "1e-" + most, "." + zeros + "1", "0x1p-1075", "0x1p-2147483648",
                "0x1p-4294967296", "0x1p-18446744073709551616", "0x1p-" + most, "0x." + zeros + "1p0",
                "1" + zeros + "e-9999999"}) {
            Due.wide(small, 0);
            Due.wide("-" + small, WIDE_SIGN);
            Due.narrow(small, 0);
            Due.narrow("-" + small, NARROW_SIGN);
        }
        for (int power = 1; power <= 200; power++) {
            Due.wide("0x1p-" + (1074 + power), 0);
            Due.narrow("0x1p-" + (149 + power), 0);
            Due.wide("-0x1ffffffffffffffp-" + (1132 + power), WIDE_SIGN);
            Due.narrow("-0x1ffffffffffffffp-" + (207 + power), NARROW_SIGN);
            Due.wide("0x1p" + (1023 + power), WIDE_INFINITE);
            Due.narrow("0x1p" + (127 + power), NARROW_INFINITE);
            Due.wide("1e-" + (323 + power), 0);
            Due.narrow("1e-" + (45 + power), 0);
            Due.wide("1e" + (308 + power), WIDE_INFINITE);
            Due.narrow("1e" + (38 + power), NARROW_INFINITE);
        }
        Due.says("1" + zeros + "e-2380", 1);
        Due.says("." + zeros + "1e2381", 1);
        Due.says("0x1" + zeros + "p-9520", 1);
        Due.says("0x." + zeros + "1p9524", 1);
        Due.says("0." + "0".repeat(2370) + "e" + "9".repeat(20), 0);
        Due.says("0x0p" + most, 0);
        Due.says("1e" + zeros + "1", 10);
        Due.says("0x1p-" + zeros + "1", 0.5);
    }

    private static void nearestOfAll() {
        Due.sentence("of all of the kind that are not INFINITE or NONE and not below 0, the one nearest to x");
        Due.says("0", 0);
        Due.says("0x.0p0", 0);
        // A size that is a number of the kind, and all that is nearer to it than to its neighbours.
        exact(1, -1074, 1, true);
        exact((1L << 52) - 1, -1074, 0x000FFFFFFFFFFFFFL, true);
        exact(1L << 52, -1074, 0x0010000000000000L, true);
        exact((1L << 53) - 1, -1074, 0x001FFFFFFFFFFFFFL, true);
        exact((1L << 52) + 1, -52, 0x3FF0000000000001L, true);
        exact((1L << 53) - 1, 971, WIDE_GREATEST, true);
        exact(1, -149, 1, false);
        exact((1L << 23) - 1, -149, 0x007FFFFFL, false);
        exact(1L << 23, -149, 0x00800000L, false);
        exact((1L << 24) - 1, -149, 0x00FFFFFFL, false);
        exact((1L << 23) + 1, -23, 0x3F800001L, false);
        exact((1L << 24) - 1, 104, NARROW_GREATEST, false);

        Due.sentence("the one nearest to x: the NARROW one of the text, not of its nearest WIDE one");
        Due.narrow("0x1.000001000000001p0", 0x3F800001L);
        Due.narrow("0x1.000002ffffffffffp0", 0x3F800001L);
        Due.narrow("1.00000005960464477539062500000000000001", 0x3F800001L);
        Due.narrow("1.00000017881393432617187499999999999999", 0x3F800001L);
    }

    private static void evenF() {
        Due.sentence("of two that are as near, the one with the even F (WIDE)");
        halfWay(1, -1075, 0, 1, 0, true);
        halfWay(3, -1075, 1, 2, 2, true);
        halfWay(5, -1075, 2, 3, 2, true);
        halfWay((1L << 53) - 3, -1075, 0x000FFFFFFFFFFFFEL, 0x000FFFFFFFFFFFFFL, 0x000FFFFFFFFFFFFEL, true);
        halfWay((1L << 53) - 1, -1075, 0x000FFFFFFFFFFFFFL, 0x0010000000000000L, 0x0010000000000000L, true);
        halfWay((1L << 53) + 1, -1075, 0x0010000000000000L, 0x0010000000000001L, 0x0010000000000000L, true);
        halfWay((1L << 54) - 1, -1075, 0x001FFFFFFFFFFFFFL, 0x0020000000000000L, 0x0020000000000000L, true);
        halfWay((1L << 53) + 1, -1074, 0x0020000000000000L, 0x0020000000000001L, 0x0020000000000000L, true);
        halfWay((1L << 54) - 1, -54, 0x3FEFFFFFFFFFFFFFL, 0x3FF0000000000000L, 0x3FF0000000000000L, true);
        halfWay((1L << 53) + 1, -53, 0x3FF0000000000000L, 0x3FF0000000000001L, 0x3FF0000000000000L, true);
        halfWay((1L << 53) + 3, -53, 0x3FF0000000000001L, 0x3FF0000000000002L, 0x3FF0000000000002L, true);
        halfWay((1L << 53) + 1, 0, 0x4340000000000000L, 0x4340000000000001L, 0x4340000000000000L, true);
        halfWay((1L << 53) + 3, 0, 0x4340000000000001L, 0x4340000000000002L, 0x4340000000000002L, true);
        halfWay((1L << 54) - 1, 969, 0x7FDFFFFFFFFFFFFFL, 0x7FE0000000000000L, 0x7FE0000000000000L, true);
        halfWay((1L << 54) - 3, 970, 0x7FEFFFFFFFFFFFFEL, WIDE_GREATEST, 0x7FEFFFFFFFFFFFFEL, true);

        Due.sentence("of two that are as near, the one with the even F (NARROW)");
        halfWay(1, -150, 0, 1, 0, false);
        halfWay(3, -150, 1, 2, 2, false);
        halfWay(5, -150, 2, 3, 2, false);
        halfWay((1L << 24) - 3, -150, 0x007FFFFEL, 0x007FFFFFL, 0x007FFFFEL, false);
        halfWay((1L << 24) - 1, -150, 0x007FFFFFL, 0x00800000L, 0x00800000L, false);
        halfWay((1L << 24) + 1, -150, 0x00800000L, 0x00800001L, 0x00800000L, false);
        halfWay((1L << 25) - 1, -150, 0x00FFFFFFL, 0x01000000L, 0x01000000L, false);
        halfWay((1L << 24) + 1, -149, 0x01000000L, 0x01000001L, 0x01000000L, false);
        halfWay((1L << 25) - 1, -25, 0x3F7FFFFFL, 0x3F800000L, 0x3F800000L, false);
        halfWay((1L << 24) + 1, -24, 0x3F800000L, 0x3F800001L, 0x3F800000L, false);
        halfWay((1L << 24) + 3, -24, 0x3F800001L, 0x3F800002L, 0x3F800002L, false);
        halfWay((1L << 24) + 1, 0, 0x4B800000L, 0x4B800001L, 0x4B800000L, false);
        halfWay((1L << 24) + 3, 0, 0x4B800001L, 0x4B800002L, 0x4B800002L, false);
        halfWay((1L << 25) - 1, 102, 0x7EFFFFFFL, 0x7F000000L, 0x7F000000L, false);
        halfWay((1L << 25) - 3, 103, 0x7F7FFFFEL, NARROW_GREATEST, 0x7F7FFFFEL, false);
    }

    private static void infiniteFrom() {
        Due.sentence("but INFINITE if x is at least 2^1024 - 2^970 (WIDE)");
        halfWay((1L << 54) - 1, 970, WIDE_GREATEST, WIDE_INFINITE, WIDE_INFINITE, true);
        halfWay(1L << 54, 970, WIDE_INFINITE, WIDE_INFINITE, WIDE_INFINITE, true);
        Due.wide("1.7976931348623158e308", WIDE_GREATEST);
        Due.wide("1.7976931348623159e308", WIDE_INFINITE);
        Due.wide("9.9e308", WIDE_INFINITE);
        Due.wide("1e308", 0x7FE1CCF385EBC8A0L);

        Due.sentence("2^128 - 2^103 (NARROW)");
        halfWay((1L << 25) - 1, 103, NARROW_GREATEST, NARROW_INFINITE, NARROW_INFINITE, false);
        halfWay(1L << 25, 103, NARROW_INFINITE, NARROW_INFINITE, NARROW_INFINITE, false);
        Due.narrow("3.4028235e38", NARROW_GREATEST);
        Due.narrow("3.4028236e38", NARROW_INFINITE);
        Due.narrow("9.9e38", NARROW_INFINITE);
        Due.narrow("1e38", 0x7E967699L);
    }

    /** The size times * 2^power, exactly, as digits without an exponent. */
    private static String exactly(long times, int power) {
        BigDecimal two = new BigDecimal(2).pow(Math.abs(power));
        BigDecimal whole = new BigDecimal(times);
        return (power < 0 ? whole.divide(two) : whole.multiply(two)).toPlainString();
    }

    private static void widened(long narrow, long wide) {
        Due.due("widened(" + narrow + ")", new NearestReader().widened(narrow), wide);
        long below = narrow ^ NARROW_SIGN;
        Due.due("widened(" + below + ")", new NearestReader().widened(below), wide ^ WIDE_SIGN);
    }

    /** Numbers that become greater from one to the next. */
    private static void ordered(boolean wide, long... numbers) {
        NearestReader x = new NearestReader();
        for (int i = 0; i < numbers.length; i++) {
            for (int j = 0; j < numbers.length; j++) {
                String pair = "(" + numbers[i] + ", " + numbers[j] + ", " + wide + ")";
                Due.due("compare" + pair, x.compare(numbers[i], numbers[j], wide), Integer.compare(i, j));
            }
        }
    }

    /** Times * 2^power is the number with these bits, and what is a little below or above it has no other nearest. */
    private static void exact(long times, int power, long bits, boolean wide) {
        halfWay(times, power, bits, bits, bits, wide);
    }

    /** What is read for times * 2^power itself, and for sizes a little below and above it, however far behind. */
    private static void halfWay(long times, int power, long low, long high, long at, boolean wide) {
        reads(exactly(times, power), at, wide);
        reads("0x" + Long.toHexString(times) + "p" + power, at, wide);
        reads("0x" + Long.toHexString(times) + "." + "0".repeat(2300) + "p" + power, at, wide);
        BigDecimal size = new BigDecimal(exactly(times, power));
        reads(size.unscaledValue() + "." + "0".repeat(1500) + "e" + -size.scale(), at, wide);
        reads("0x." + Long.toHexString(times) + "p" + (power + 4 * Long.toHexString(times).length()), at, wide);
        below(times, power, low, wide);
        above(times, power, high, wide);
    }

    private static void below(long times, int power, long bits, boolean wide) {
        String oneLess = Long.toHexString(times - 1);
        reads("0x" + oneLess + "." + "f".repeat(20) + "p" + power, bits, wide);
        reads("0x" + oneLess + ".fp" + power, bits, wide);
        reads("0x" + oneLess + "f".repeat(2300) + "p" + (power - 9200), bits, wide);
        BigDecimal size = new BigDecimal(exactly(times, power));
        BigInteger digits = size.unscaledValue().subtract(BigInteger.ONE);
        reads(digits + "." + "9".repeat(30) + "e" + -size.scale(), bits, wide);
        reads(digits + "9".repeat(1500) + "e" + (-size.scale() - 1500), bits, wide);
    }

    private static void above(long times, int power, long bits, boolean wide) {
        String hexadecimal = Long.toHexString(times);
        reads("0x" + hexadecimal + ".1p" + power, bits, wide);
        reads("0x" + hexadecimal + "." + "0".repeat(20) + "1p" + power, bits, wide);
        reads("0x" + hexadecimal + "0".repeat(2300) + "1p" + (power - 9204), bits, wide);
        BigDecimal size = new BigDecimal(exactly(times, power));
        String digits = size.unscaledValue().toString();
        reads(digits + "." + "0".repeat(30) + "1e" + -size.scale(), bits, wide);
        reads(digits + "." + "0".repeat(1500) + "1e" + -size.scale(), bits, wide);
    }

    private static void reads(String text, long bits, boolean wide) {
        if (wide) {
            Due.wide(text, bits);
            Due.wide("-" + text, bits | WIDE_SIGN);
        } else {
            Due.narrow(text, bits);
            Due.narrow("-" + text, bits | NARROW_SIGN);
        }
    }
}
