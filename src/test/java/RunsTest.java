import java.math.BigInteger;
import java.util.regex.Matcher;
import java.util.regex.Pattern;

/** Runs of 512 calls of all kinds on one object, each answer against a plain model of the document. */
public final class RunsTest {
    private static final String DIGITS = "[0-9]+";
    private static final String HEX_DIGITS = "[0-9a-fA-F]+";
    private static final String DECIMAL = forms(DIGITS) + "([eE][+-]?" + DIGITS + ")?";
    private static final String HEXADECIMAL = "0[xX]" + forms(HEX_DIGITS) + "[pP][+-]?" + DIGITS;
    private static final Pattern NUMERAL = Pattern.compile("[\\x01-\\x20]*(?<sign>[+-]?)(?<rest>NaN|Infinity|(?<literal>"
        + DECIMAL + "|" + HEXADECIMAL + ")[fFdD]?)[\\x01-\\x20]*");
    private static final String[] PIECES = {
        "1", "9", "0", "12345678", "00000000", "99999999", ".", "e", "E-", "e+", "0x", "p", "P-", "f", "D", "-", "+", "NaN",
        "Infinity", " ", "\t", "e-300", "e300", "p-1070", "p1000", "e-40", "abcdef", "16777217", "e99999", "\u00ff",
    };
    private static final String[] WHOLE = {"1", "-2.5", "1e23", "NaN", "-Infinity", "0x1.8p1", " 7f ", "4.9e-324", ".5",
        "1e-46", "3.5e38", "0x1p-1075", "9007199254740993", "16777217", "-0", "1e999", "-1e-999", "0x1.000001p0"};

    private final NearestReader reader = new NearestReader();
    private final StringBuilder text = new StringBuilder();
    private long result = 0;
    private int found = 0;
    private int calls = 0;

    public static void main(String[] args) {
        for (int i = 0; i < 400; i++) {
            RunsTest run = new RunsTest();
            int style = i % 4;
            if (style == 0) {
                run.fill(i % 8 == 0 ? 299 : Due.pick(300));
            }
            while (run.calls < 500) {
                run.anyCall(style);
            }
        }
        Due.end();
    }

    private static String forms(String digits) {
        return "(" + digits + "|" + digits + "\\.|" + digits + "\\." + digits + "|\\." + digits + ")";
    }

    private void fill(int count) {
        for (int i = 0; i < count; i++) {
            write(0x3030303030303030L | Due.pickLong() & 0x0707070707070707L);
        }
    }

    /** Style 0 fills the text, 1 writes pieces, 2 whole NUMERALS, 3 whole ones between pieces. */
    private void anyCall(int style) {
        switch (Due.pick(10)) {
            case 0 -> keep(style == 0 ? text.length() - Due.pick(9) : text.length() - Due.pick(text.length() + 4) + 1);
            case 1 -> askAll();
            case 2, 3 -> read(true);
            case 4, 5 -> read(false);
            case 6 -> numbers();
            default -> append(style);
        }
    }

    private void append(int style) {
        if (style == 0) {
            int count = Due.pick(3) + 1;
            for (int i = 0; i < count && calls < 500; i++) {
                long eight = 0x3030303030303030L | Due.pickLong() & 0x0707070707070707L;
                write(Due.pick(4) == 0 ? eight & Due.pickLong() : eight);
            }
        } else if (style == 1 || style == 3 && Due.pick(2) == 0) {
            writeAll(PIECES[Due.pick(PIECES.length)]);
        } else {
            keep(0);
            writeAll(WHOLE[Due.pick(WHOLE.length)]);
        }
    }

    private void writeAll(String piece) {
        for (int i = 0; i < piece.length(); i += 8) {
            long eight = 0;
            for (char c : piece.substring(i, Math.min(piece.length(), i + 8)).toCharArray()) {
                eight = eight << 8 | c;
            }
            write(eight);
        }
    }

    private void write(long eight) {
        StringBuilder added = new StringBuilder();
        for (int shift = 56; shift >= 0; shift -= 8) {
            int c = (int) (eight >>> shift) & 255;
            if (c != 0) {
                added.append((char) c);
            }
        }
        boolean room = text.length() + added.length() <= 2400;
        if (room) {
            text.append(added);
        }
        calls++;
        Due.due("write(" + eight + ")", reader.write(eight), room);
    }

    private void keep(int n) {
        boolean cut = n >= 0 && n < text.length();
        if (cut) {
            text.setLength(n);
        }
        calls++;
        Due.due("keep(" + n + ")", reader.keep(n), cut);
    }

    private void askAll() {
        calls += 3;
        Due.due("length()", reader.length(), text.length());
        Due.due("bits()", reader.bits(), result);
        Due.due("readings()", reader.readings(), found);
    }

    private void read(boolean wide) {
        Matcher numeral = NUMERAL.matcher(text);
        boolean is = numeral.matches();
        if (is) {
            found++;
            result = due(numeral, wide);
        }
        calls += 2;
        Due.due((wide ? "wide() of " : "narrow() of ") + text, wide ? reader.wide() : reader.narrow(), is);
        Due.due("bits() of " + text, reader.bits(), result);
    }

    private static long due(Matcher numeral, boolean wide) {
        long infinite = wide ? 2047L << 52 : 255L << 23;
        long sign = numeral.group("sign").equals("-") ? 1L << (wide ? 63 : 31) : 0;
        if (numeral.group("rest").equals("NaN")) {
            return infinite | 1L << (wide ? 51 : 22);
        }
        if (numeral.group("rest").equals("Infinity")) {
            return sign | infinite;
        }
        BigInteger[] size = Due.sizeOf(withSmallPower(numeral.group("literal")));
        return sign | Due.nearest(size[0], size[1], wide);
    }

    /** A power beyond 12000 says no other number than 12000 says, for the text is shorter than that by far. */
    private static String withSmallPower(String literal) {
        boolean hexadecimal = literal.toLowerCase().startsWith("0x");
        int mark = literal.toLowerCase().indexOf(hexadecimal ? 'p' : 'e');
        if (mark < 0) {
            return literal;
        }
        BigInteger power = new BigInteger(literal.substring(mark + 1).replace("+", ""));
        BigInteger most = BigInteger.valueOf(12000);
        return literal.substring(0, mark + 1) + power.min(most).max(most.negate());
    }

    /** What these answer must not change the text or the result, which later calls look at. */
    private void numbers() {
        long a = Due.pickLong() >> Due.pick(64);
        long b = Due.pickLong() >> Due.pick(64);
        calls += 4;
        Due.due("narrowed(" + a + ")", reader.narrowed(a), narrowed(a));
        Due.due("widened(" + b + ")", reader.widened(b), Double.doubleToLongBits(Float.intBitsToFloat((int) b)));
        boolean wide = (a & 1) == 0;
        Due.due("quotient(" + a + ", " + b + ", " + wide + ")", reader.quotient(a, b, wide), quotient(a, b, wide));
        Due.due("compare(" + a + ", " + b + ", " + wide + ")", reader.compare(a, b, wide), compared(a, b, wide));
    }

    private static long narrowed(long wide) {
        return Float.floatToIntBits((float) Double.longBitsToDouble(wide)) & 0xFFFFFFFFL;
    }

    private static long quotient(long a, long b, boolean wide) {
        long infinite = wide ? 2047L << 52 : 255L << 23;
        long sign = 1L << (wide ? 63 : 31);
        if (b == 0) {
            return a == 0 ? infinite | 1L << (wide ? 51 : 22) : a < 0 ? sign | infinite : infinite;
        }
        if (a == 0) {
            return 0;
        }
        long size = Due.nearest(BigInteger.valueOf(a).abs(), BigInteger.valueOf(b).abs(), wide);
        return a < 0 != b < 0 ? sign | size : size;
    }

    private static int compared(long x, long y, boolean wide) {
        double a = wide ? Double.longBitsToDouble(x) : Float.intBitsToFloat((int) x);
        double b = wide ? Double.longBitsToDouble(y) : Float.intBitsToFloat((int) y);
        return a < b ? -1 : a > b ? 1 : a == b ? 0 : 2;
    }
}
