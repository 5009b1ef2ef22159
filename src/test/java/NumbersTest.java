import java.math.BigInteger;

/** Promises 8 to 11: narrowed, widened, quotient, compare. */
public final class NumbersTest {
    private static final long WIDE_NONE = 2047L << 52 | 1L << 51;
    private static final long NARROW_NONE = 255L << 23 | 1L << 22;
    private static final long[] WIDE_EDGES = {
        0, 1, 2, (1L << 52) - 1, 1L << 52, (1L << 52) + 1, (2047L << 52) - 1, 2047L << 52, (2047L << 52) + 1, WIDE_NONE,
        Long.MAX_VALUE, 1023L << 52, (1023L << 52) - 1, (1023L << 52) + 1,
    };
    private static final long[] NARROW_EDGES = {
        0, 1, 2, (1L << 23) - 1, 1L << 23, (1L << 23) + 1, (255L << 23) - 1, 255L << 23, (255L << 23) + 1, NARROW_NONE,
        (1L << 31) - 1, 127L << 23, (127L << 23) - 1, (127L << 23) + 1,
    };
    private static final long[] WHOLES = {
        0, 1, -1, 2, -2, 3, -3, 5, 7, 10, -10, 1L << 24, (1L << 24) + 1, (1L << 24) + 3, (1L << 53) + 1, (1L << 53) + 3,
        -(1L << 53) - 1, 1L << 31, 1L << 32, (1L << 32) - 1, 1L << 62, (1L << 62) - 1, (1L << 62) + 1, Long.MAX_VALUE,
        Long.MAX_VALUE - 1, Long.MIN_VALUE, Long.MIN_VALUE + 1, 0x7FFFFFFFFFFFFDFFL, 0x7FFFFFFFFFFFFE00L,
        0x7FFFFFBFFFFFFFFFL, 0x7FFFFFC000000000L, 0x0020000000000001L, 0x0020000000000003L, 0x7FFFFF4000000000L,
    };

    private static NearestReader reader = new NearestReader();
    private static int calls = 0;

    public static void main(String[] args) {
        narrowing();
        widening();
        dividing();
        comparing();
        Due.end();
    }

    /** A new object in time: what an object answers after 512 calls is free. */
    private static NearestReader reader() {
        calls++;
        if (calls % 500 == 0) {
            reader = new NearestReader();
        }
        return reader;
    }

    private static void narrowing() {
        for (long bits : WIDE_EDGES) {
            narrowed(bits);
        }
        // Each half way between two NARROW numbers, and its neighbours, at every edge.
        for (long bits : NARROW_EDGES) {
            if (bits < 255L << 23) {
                double low = Float.intBitsToFloat((int) bits);
                double high = bits + 1 == 255L << 23 ? 0x1p128 : Float.intBitsToFloat((int) bits + 1);
                long half = Double.doubleToRawLongBits((low + high) / 2);
                Due.due("narrowed(" + half + ")", reader().narrowed(half), bits + (bits & 1));
                Due.due("narrowed below", reader().narrowed(half - 1), bits);
                Due.due("narrowed above", reader().narrowed(half + 1), bits + 1);
                Due.due("narrowed itself", reader().narrowed(Double.doubleToRawLongBits(low)), bits);
                narrowed(half);
                narrowed(half - 1);
                narrowed(half + 1);
            }
        }
        for (int i = 0; i < 50000; i++) {
            narrowed(Due.pickLong());
            // E such that the NARROW number is not 0 and not INFINITE, and F of few bits for half ways.
            long e = 1023 - 152 + Due.pick(282);
            narrowed(e << 52 | Due.pickLong() >>> 12);
            narrowed(e << 52 | Due.pickLong() >>> 12 & -1L << 20 + Due.pick(32));
        }
    }

    private static void narrowed(long bits) {
        for (long sign : new long[] {0, 1L << 63}) {
            long wide = bits ^ sign;
            double number = Double.longBitsToDouble(wide);
            long due = number != number ? NARROW_NONE : Float.floatToRawIntBits((float) number) & 0xFFFFFFFFL;
            Due.due("narrowed(" + wide + ")", reader().narrowed(wide), due);
        }
    }

    private static void widening() {
        for (long bits : NARROW_EDGES) {
            widened(bits);
        }
        for (int i = 0; i < 50000; i++) {
            widened(Due.pickLong() & 0xFFFFFFFFL);
            widened(Due.pickLong() & 0xFFFFFF >>> Due.pick(24));
        }
    }

    private static void widened(long bits) {
        for (long sign : new long[] {0, 1L << 31}) {
            long narrow = bits ^ sign;
            float number = Float.intBitsToFloat((int) narrow);
            long due = number != number ? WIDE_NONE : Double.doubleToRawLongBits(number);
            Due.due("widened(" + narrow + ")", reader().widened(narrow), due);
            long above = Due.pickLong() << 32;
            Due.due("widened(" + (above | narrow) + ")", reader().widened(above | narrow), due);
            Due.due("widened with all above", reader().widened(-1L << 32 | narrow), due);
            if (number == number) {
                Due.due("narrowed again", reader().narrowed(due), narrow);
            }
        }
    }

    private static void dividing() {
        for (long a : WHOLES) {
            for (long b : WHOLES) {
                quotient(a, b);
            }
        }
        for (int i = 0; i < 3000; i++) {
            quotient(Due.pickLong() >> Due.pick(64), Due.pickLong() >> Due.pick(64));
            long odd = Due.pickLong() >>> 10 + Due.pick(40);
            quotient(odd, 1L << Due.pick(63));
            quotient(2 * odd + 1, -1L << Due.pick(63));
        }
        for (long b : new long[] {3, -3, 1L << 62, Long.MIN_VALUE}) {
            Due.due("quotient(0, " + b + ", true)", reader().quotient(0, b, true), 0);
            Due.due("quotient(0, " + b + ", false)", reader().quotient(0, b, false), 0);
        }
        Due.due("quotient(1, 0, true)", reader().quotient(1, 0, true), 2047L << 52);
        Due.due("quotient(-1, 0, true)", reader().quotient(-1, 0, true), -1L << 52);
        Due.due("quotient(1, 0, false)", reader().quotient(1, 0, false), 255L << 23);
        Due.due("quotient(-1, 0, false)", reader().quotient(-1, 0, false), 511L << 23);
        Due.due("quotient(0, 0, true)", reader().quotient(0, 0, true), WIDE_NONE);
        Due.due("quotient(0, 0, false)", reader().quotient(0, 0, false), NARROW_NONE);
    }

    private static void quotient(long a, long b) {
        if (a == 0 || b == 0) {
            return;
        }
        BigInteger top = BigInteger.valueOf(a).abs();
        BigInteger bottom = BigInteger.valueOf(b).abs();
        boolean below = a < 0 != b < 0;
        Due.due("quotient(" + a + ", " + b + ", true)", reader().quotient(a, b, true),
            Due.nearest(top, bottom, true) | (below ? 1L << 63 : 0));
        Due.due("quotient(" + a + ", " + b + ", false)", reader().quotient(a, b, false),
            Due.nearest(top, bottom, false) | (below ? 1L << 31 : 0));
    }

    private static void comparing() {
        for (long x : WIDE_EDGES) {
            for (long y : WIDE_EDGES) {
                compareWide(x, y);
            }
        }
        for (long x : NARROW_EDGES) {
            for (long y : NARROW_EDGES) {
                compareNarrow(x, y);
            }
        }
        for (int i = 0; i < 20000; i++) {
            long x = Due.pickLong();
            compareWide(x, Due.pickLong());
            compareWide(x, x + Due.pick(3) - 1);
            compareNarrow(x, Due.pickLong());
            compareNarrow(x, x + Due.pick(3) - 1);
        }
    }

    private static void compareWide(long left, long right) {
        for (int signs = 0; signs < 4; signs++) {
            long x = left ^ (long) (signs & 1) << 63;
            long y = right ^ (long) (signs >> 1) << 63;
            double a = Double.longBitsToDouble(x);
            double b = Double.longBitsToDouble(y);
            int due = a < b ? -1 : a > b ? 1 : a == b ? 0 : 2;
            Due.due("compare(" + x + ", " + y + ", true)", reader().compare(x, y, true), due);
        }
    }

    private static void compareNarrow(long left, long right) {
        for (int signs = 0; signs < 4; signs++) {
            long x = left ^ (long) (signs & 1) << 31;
            long y = right ^ (long) (signs >> 1) << 31;
            float a = Float.intBitsToFloat((int) x);
            float b = Float.intBitsToFloat((int) y);
            int due = a < b ? -1 : a > b ? 1 : a == b ? 0 : 2;
            Due.due("compare(" + x + ", " + y + ", false)", reader().compare(x, y, false), due);
            long above = Due.pickLong() << 32;
            Due.due("compare(" + (x ^ above) + ", " + y + ", false)", reader().compare(x ^ above, y, false), due);
            Due.due("compare(" + x + ", " + (y ^ above) + ", false)", reader().compare(x, y ^ above, false), due);
        }
    }
}
