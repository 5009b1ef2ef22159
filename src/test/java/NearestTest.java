import java.math.BigDecimal;
import java.math.BigInteger;

/** Promises 5 and 6: the NEAREST number, of both kinds, to sizes of any length. */
public final class NearestTest {
    private static final long WIDE_INFINITE = 2047L << 52;
    private static final long NARROW_INFINITE = 255L << 23;

    public static void main(String[] args) {
        words();
        edges();
        greatAndSmall();
        longExponents();
        halfWays(true);
        halfWays(false);
        randomDecimals();
        randomHexadecimals();
        oneObjectForMany();
        Due.end();
    }

    private static void words() {
        for (String sign : new String[] {"", "+", "-"}) {
            Due.wide(sign + "NaN", 2047L << 52 | 1L << 51);
            Due.narrow(sign + "NaN", 255L << 23 | 1L << 22);
            boolean minus = sign.equals("-");
            Due.wide(sign + "Infinity", WIDE_INFINITE | (minus ? 1L << 63 : 0));
            Due.narrow(sign + "Infinity", NARROW_INFINITE | (minus ? 1L << 31 : 0));
            for (String zero : new String[] {"0", "0.0", ".0e5", "0e-9", "0x0p0", "0x.00p-7", "0e999999999999"}) {
                Due.wide(sign + zero, minus ? 1L << 63 : 0);
                Due.narrow(sign + zero, minus ? 1L << 31 : 0);
            }
            Due.wide(sign + "1e-400", minus ? 1L << 63 : 0);
            Due.narrow(sign + "1e-400", minus ? 1L << 31 : 0);
        }
        Due.wide(" \t-12.5e-1f\n ", Double.doubleToRawLongBits(-1.25));
        Due.narrow("\u0001+0X1.8P1D ", Float.floatToRawIntBits(3f));
    }

    private static void edges() {
        String[] literals = {
            "1", "10", "0.1", "123456789", "1e22", "1e23", "8.5e22", "9007199254740993", "16777217", "16777219",
            "4.9e-324", "2.4703282292062327e-324", "2.4703282292062328e-324", "2.2250738585072014e-308",
            "2.2250738585072011e-308", "2.225073858507201136e-308", "1.7976931348623157e308", "1.7976931348623158e308",
            "1.7976931348623159e308", "1.797693134862315807e308", "1.797693134862315808e308", "1e308", "9.99e308", "1e309",
            "1e310", "1e-323", "1e-324", "9.9e-324", "3e-324", "2e-324", "1e-325", "9e-325", "1.4e-45", "7.0e-46",
            "7.006492321624085e-46", "7.006492321624086e-46", "1.1754943508222875e-38", "1.17549435e-38",
            "1.1754942807573643e-38", "3.4028234663852886e38", "3.4028235677973366e38", "3.4028235677973365e38",
            "3.4028235677973367e38", "3.5e38", "9e38", "1e39", "1e40", "9e-46", "1e-46", "9e-47", "1e-45",
            "0x1p1023", "0x1p1024", "0x1.fffffffffffffp1023", "0x1.fffffffffffff7p1023", "0x1.fffffffffffff8p1023",
            "0x1.fffffffffffff7ffffffffffffffffp1023", "0x1p-1074", "0x1p-1075", "0x1.0000000000000000001p-1075",
            "0x1.8p-1074", "0x1.8p-1075", "0x3p-1075", "0x1p-1022", "0x0.fffffffffffff8p-1022", "0x0.fffffffffffff7p-1022",
            "0x1p127", "0x1p128", "0x1.fffffep127", "0x1.fffffefp127", "0x1.ffffffp127", "0x1.fffffeffffffffffffp127",
            "0x1p-149", "0x1p-150", "0x1.0000000000000000000000001p-150", "0x1.8p-149", "0x1p-126", "0x0.ffffffp-126",
            "0x1.0000000000000800p0", "0x1.00000000000008001p0", "0x1.0000000000001800p0", "0x1.000001p0",
            "0x1.00000100000000000000000001p0", "0x1.000003p0", "0x10000000000000000p0", "0x1fffffffffffffp0",
            "0x3fffffffffffffp0", "0x7fffffffffffffffp0", "0xffffffffffffffffp0", "0x1ffffffffffffffffp0",
        };
        for (String literal : literals) {
            Due.both("", literal);
            Due.both("-", literal);
        }
        for (int power = -1080; power <= 1030; power++) {
            Due.both("", "0x1p" + power);
            Due.both("-", "0x1.8p" + power);
        }
        for (int power = -330; power <= 315; power++) {
            Due.both("", "1e" + power);
            Due.both("+", "9.999999999999999999e" + power);
        }
    }

    private static void greatAndSmall() {
        String zeros = "0".repeat(2000);
        Due.both("", "1" + zeros);
        Due.both("", "1" + zeros + "e-1990");
        Due.both("", "1" + zeros + "." + "e-2000");
        Due.both("-", "." + zeros + "1e2000");
        Due.both("", "." + zeros + "1e2309");
        Due.both("", "." + zeros + "1e2310");
        Due.both("", "0." + zeros + "12345e1680");
        Due.both("", "0." + zeros + "1");
        Due.both("", zeros + "17.5" + "0".repeat(300) + "e5");
        Due.both("", "0x1" + zeros + "p-8000");
        Due.both("", "0x1" + zeros + "p-7000");
        Due.both("", "0x1" + zeros + "p-9080");
        Due.both("", "0x." + zeros + "1p8004");
        Due.both("", "0x." + zeros + "1p9027");
        Due.both("", "0x." + zeros + "1p9028");
        Due.both("", "0x" + zeros + "1.8p3");
        Due.both("", "0x1" + zeros + ".8p-8000");
        Due.both("", "0x1.0000000000000800" + zeros + "1p0");
        Due.both("", "0x1.000001" + zeros + "1p0");
        Due.both("", "9".repeat(2390));
        Due.both("", "." + "9".repeat(2390));
        Due.both("", "9".repeat(308) + "." + "9".repeat(2000));
        Due.both("", "9".repeat(2390) + "e-2690");
        Due.both("", "1".repeat(1200) + "." + "7".repeat(1150) + "e-900");
        Due.both("", "0x" + "f".repeat(1000) + "." + "F".repeat(1380) + "p-5000");
        Due.both("", "0x." + "f".repeat(2380) + "p-1022");
    }

    private static void longExponents() {
        for (String ten : new String[] {"1000000", "2147483647", "2147483648", "4294967296", "4294967297", "9999999999",
                "9223372036854775808", "18446744073709551616", "9".repeat(2380)}) {
            Due.wide("1e" + ten, WIDE_INFINITE);
            Due.narrow("-1e+" + ten, NARROW_INFINITE | 1L << 31);
            Due.wide("1e-" + ten, 0);
            Due.narrow("1e-" + ten, 0);
            Due.wide("0e" + ten, 0);
            Due.narrow("0.0e" + ten, 0);
            Due.wide("0x1p" + ten, WIDE_INFINITE);
            Due.narrow("0x1p" + ten, NARROW_INFINITE);
            Due.wide("-0x1p-" + ten, 1L << 63);
            Due.narrow("0x1p-" + ten, 0);
            Due.wide("0x0p" + ten, 0);
            Due.narrow("-0x.0p" + ten, 1L << 31);
        }
        Due.wide("." + "0".repeat(2300) + "1e1000000", WIDE_INFINITE);
        Due.wide("1" + "0".repeat(2300) + "e-1000000", 0);
        Due.wide("0x." + "0".repeat(2300) + "1p1000000", WIDE_INFINITE);
        Due.wide("0x1" + "0".repeat(2300) + "p-1000000", 0);
        Due.wide("1e" + "0".repeat(2390) + "5", Double.doubleToRawLongBits(1e5));
        Due.narrow("0x1p-" + "0".repeat(2390) + "5", Float.floatToRawIntBits(0.03125f));
    }

    /** The very half ways, and what is a little below and above them, however far behind. */
    private static void halfWays(boolean wide) {
        long infinite = wide ? WIDE_INFINITE : NARROW_INFINITE;
        long normal = wide ? 1L << 52 : 1L << 23;
        long[] edges = {0, 1, 2, 3, normal - 2, normal - 1, normal, normal + 1, 2 * normal - 2, 2 * normal - 1,
            2 * normal, infinite - 3, infinite - 2, infinite - 1};
        for (long bits : edges) {
            aroundHalfWay(bits, wide);
        }
        for (int i = 0; i < 150; i++) {
            aroundHalfWay(Long.remainderUnsigned(Due.pickLong(), infinite), wide);
            aroundHalfWay(Long.remainderUnsigned(Due.pickLong(), 2 * normal), wide);
        }
    }

    private static void aroundHalfWay(long bits, boolean wide) {
        String half = Due.halfWay(bits, wide);
        long even = bits + (bits & 1);
        String point = half.indexOf('.') < 0 ? "." : "";
        int room = 2390 - half.length() - 1;
        nearest(half, even, wide);
        nearest(half + point + "0".repeat(room), even, wide);
        nearest(half + point + "0".repeat(room) + "1", bits + 1, wide);
        nearest(half + point + "1", bits + 1, wide);
        nearest(half + point + "0".repeat(Math.min(room, 20)) + "9", bits + 1, wide);
        BigDecimal exact = new BigDecimal(half);
        String digits = exact.unscaledValue().toString();
        String oneLess = exact.unscaledValue().subtract(BigInteger.ONE).toString();
        int tens = -exact.scale();
        nearest(digits + "e" + tens, even, wide);
        nearest("0.0000" + digits + "e" + (tens + digits.length() + 4), even, wide);
        nearest(oneLess + "9".repeat(800) + "e" + (tens - 800), bits, wide);
        nearest(oneLess + "." + "9".repeat(1500) + "e" + tens, bits, wide);
        nearest(digits + "0".repeat(799) + "1e" + (tens - 800), bits + 1, wide);
    }

    private static void nearest(String text, long bits, boolean wide) {
        if (wide) {
            Due.wide(text, bits);
        } else {
            Due.narrow(text, bits);
        }
    }

    private static String digits(int count, int base) {
        StringBuilder made = new StringBuilder();
        for (int i = 0; i < count; i++) {
            char c = Character.forDigit(Due.pick(base), base);
            made.append(Due.pick(2) == 0 ? c : Character.toUpperCase(c));
        }
        return made.toString();
    }

    private static void randomDecimals() {
        for (int i = 0; i < 6000; i++) {
            int most = i % 100 == 0 ? 1100 : i % 10 == 0 ? 100 : 20;
            int before = Due.pick(most);
            String literal = digits(before, 10) + "." + digits(Due.pick(most) + 1, 10);
            int power = Due.pick(5) == 0 ? Due.pick(700) - 350 : Due.pick(90) - 45;
            if (Due.pick(8) != 0) {
                literal += "e" + (power - before);
            }
            Due.both(Due.pick(2) == 0 ? "-" : "", literal);
        }
        for (int i = 0; i < 3000; i++) {
            double any = Double.longBitsToDouble(Long.remainderUnsigned(Due.pickLong(), WIDE_INFINITE));
            Due.both("", Double.toString(any));
            float other = Float.intBitsToFloat((int) Long.remainderUnsigned(Due.pickLong(), NARROW_INFINITE));
            Due.both("-", Float.toString(other));
        }
    }

    private static void randomHexadecimals() {
        for (int i = 0; i < 6000; i++) {
            int most = i % 100 == 0 ? 1100 : i % 10 == 0 ? 40 : 10;
            int before = Due.pick(most);
            String literal = "0x" + digits(before, 16) + "." + digits(Due.pick(most) + 1, 16);
            int power = Due.pick(3) == 0 ? Due.pick(2300) - 1150 : Due.pick(320) - 160;
            Due.both(Due.pick(2) == 0 ? "-" : "", literal + "p" + (power - 4 * before));
        }
    }

    /** The rows are used again: what one reading leaves must not be seen by the next. */
    private static void oneObjectForMany() {
        String[] texts = {"9".repeat(2300) + "e-2300", "1", "1e-320", "3e300", "0x1p3", "1e400", "0", "0.1", "1e-400"};
        NearestReader x = new NearestReader();
        for (int i = 0; i < 3; i++) {
            for (String text : texts) {
                x.keep(0);
                Due.write(x, text);
                Due.due("wide() of " + text, x.wide(), true);
                Due.due("bits() of " + text, x.bits(), Double.doubleToRawLongBits(Double.parseDouble(text)));
                x.quotient(7, 9, true);
                Due.due("narrow() of " + text, x.narrow(), true);
                Due.due("bits() of " + text, x.bits(), Float.floatToRawIntBits(Float.parseFloat(text)));
            }
            // The text is written by eights, so a new object keeps within 512 calls.
            x = new NearestReader();
        }
    }
}
