/** The twelve promises, sentence by sentence, each with its boundary cases and with answers written out. */
public final class PromisesTest {
    private static final long WIDE_GREATEST = 0x7FEFFFFFFFFFFFFFL;
    private static final long WIDE_INFINITE = 0x7FF0000000000000L;
    private static final long WIDE_NONE = 0x7FF8000000000000L;
    private static final long WIDE_SIGN = 0x8000000000000000L;
    private static final long NARROW_GREATEST = 0x7F7FFFFFL;
    private static final long NARROW_INFINITE = 0x7F800000L;
    private static final long NARROW_NONE = 0x7FC00000L;
    private static final long NARROW_SIGN = 0x80000000L;
    private static final long EIGHT_NINES = 0x3939393939393939L;

    public static void main(String[] args) {
        newObject();
        writing();
        writingRefused();
        keeping();
        keepingRefused();
        lengths();
        readingWide();
        readingNarrow();
        noNumeral();
        textStays();
        result();
        narrowing();
        narrowingEdges();
        widening();
        dividing();
        dividingByZero();
        comparing();
        comparingInfinite();
        comparingNone();
        readings();
        Due.end();
    }

    private static void newObject() {
        Due.sentence("1: An empty text");
        NearestReader x = new NearestReader();
        Due.due("length()", x.length(), 0);
        Due.due("keep(0)", x.keep(0), false);
        Due.due("wide()", x.wide(), false);
        Due.due("narrow()", x.narrow(), false);
        Due.sentence("1: the result is 0");
        Due.due("bits()", new NearestReader().bits(), 0);
        Due.due("bits() after readings of nothing", x.bits(), 0);
        Due.due("readings()", new NearestReader().readings(), 0);

        Due.sentence("1: also when other objects were used before");
        NearestReader used = Due.holding("-5");
        Due.due("wide()", used.wide(), true);
        NearestReader next = new NearestReader();
        Due.due("length()", next.length(), 0);
        Due.due("bits()", next.bits(), 0);
        Due.due("readings()", next.readings(), 0);
        Due.due("write(7)", next.write('7'), true);
        Due.due("length() of the other", used.length(), 2);
        Due.due("bits() of the other", used.bits(), 0xC014000000000000L);
    }

    private static void writing() {
        Due.sentence("2: Appends the characters that are the bytes of eight, from the highest to the lowest");
        NearestReader x = new NearestReader();
        Due.due("write(12345678)", x.write(0x3132333435363738L), true);
        Due.due("length()", x.length(), 8);
        reads(x, 12345678);
        Due.due("write(.25e0001)", x.write(0x2E32356530303031L), true);
        Due.due("length()", x.length(), 16);
        reads(x, 123456782.5);

        Due.sentence("2: zeros left out");
        NearestReader y = new NearestReader();
        Due.due("write(0)", y.write(0), true);
        Due.due("length()", y.length(), 0);
        for (int shift = 0; shift < 64; shift += 8) {
            Due.due("write(1 at " + shift + ")", y.write(0x31L << shift), true);
            Due.due("length()", y.length(), 1 + shift / 8);
        }
        reads(y, 11111111);
        Due.due("keep(0)", y.keep(0), true);
        Due.due("write(1, 2, 3, 4)", y.write(0x3100320033003400L), true);
        Due.due("write(., 5)", y.write(0x00002E0000000035L), true);
        Due.due("length()", y.length(), 6);
        reads(y, 1234.5);

        Due.sentence("2: bytes from 128 on are characters, too");
        Due.due("write(-1)", y.write(-1L), true);
        Due.due("length()", y.length(), 14);
        Due.due("write(least)", y.write(Long.MIN_VALUE), true);
        Due.due("length()", y.length(), 15);
        Due.due("wide()", y.wide(), false);
        Due.due("keep(6)", y.keep(6), true);
        reads(y, 1234.5);
    }

    private static void writingRefused() {
        Due.sentence("2: true up to 2400");
        NearestReader x = filled(2392);
        Due.due("write of eight at 2392", x.write(EIGHT_NINES), true);
        Due.due("length()", x.length(), 2400);
        for (int count = 1; count <= 8; count++) {
            x = filled(2400 - count);
            Due.due("write of " + count + " at " + (2400 - count), x.write(EIGHT_NINES >>> 64 - 8 * count), true);
            Due.due("length()", x.length(), 2400);
        }
        Due.sentence("2: false, refused, when there would be more than 2400");
        for (int count = 1; count <= 8; count++) {
            for (int room = 0; room < count; room++) {
                x = filled(2400 - room);
                Due.due("write of " + count + " with room for " + room, x.write(EIGHT_NINES >>> 64 - 8 * count), false);
                Due.due("write of them from the highest", x.write(EIGHT_NINES << 64 - 8 * count), false);
                Due.due("length()", x.length(), 2400 - room);
            }
        }
        for (int c : new int[] {1, 2, 32, 127, 128, 254, 255}) {
            x = filled(2399);
            Due.due("write of two of " + c + " at 2399", x.write((long) c << 32 | c), false);
            Due.due("length()", x.length(), 2399);
            Due.due("write of one of " + c + " at 2399", x.write((long) c << 56), true);
            Due.due("length()", x.length(), 2400);
        }
        Due.sentence("2: there are not more than 2400 when a full text gets no character");
        x = filled(2400);
        Due.due("write(0) when full", x.write(0), true);
        Due.due("length()", x.length(), 2400);

        Due.sentence("2: a refused write leaves text, result and readings");
        x = new NearestReader();
        Due.write(x, "0".repeat(2397) + "25");
        reads(x, 25);
        Due.due("write(two) at 2399", x.write(0x3939), false);
        Due.due("bits()", x.bits(), Float.floatToRawIntBits(25));
        Due.due("readings()", x.readings(), 2);
        reads(x, 25);
        Due.due("write(one) at 2399", x.write(0x39), true);
        reads(x, 259);
        Due.due("write(one) at 2400", x.write(0x39), false);
        reads(x, 259);
    }

    private static void keeping() {
        Due.sentence("3: The text's first n characters stay alone: true");
        for (int n = 0; n < 8; n++) {
            NearestReader x = Due.holding("12345678");
            Due.due("keep(" + n + ")", x.keep(n), true);
            Due.due("length()", x.length(), n);
            if (n > 0) {
                reads(x, Integer.parseInt("12345678".substring(0, n)));
            } else {
                Due.due("wide() of nothing", x.wide(), false);
            }
            // What was cut off does not come back when the text grows again.
            Due.due("write(9)", x.write('9'), true);
            Due.due("length()", x.length(), n + 1);
            reads(x, Integer.parseInt("12345678".substring(0, n) + "9"));
        }
        Due.sentence("3: stay alone: what is behind them is not read");
        String[] cut = {"1e5", "0x1p1", "-5", ".5", "+.5", "NaN", "-Infinity", "0x1.8p12", "1.5", "0x1p1", "7f", "1e12",
            " 5"};
        int[] kept = {2, 4, 1, 1, 2, 2, 8, 6, 2, 1, 1, 3, 1};
        double[] left = {-1, -1, -1, -1, -1, -1, -1, -1, 1, 0, 7, 10, -1};
        for (int i = 0; i < cut.length; i++) {
            NearestReader x = Due.holding(cut[i]);
            Due.due("wide() of " + cut[i], x.wide(), true);
            Due.due("keep(" + kept[i] + ") of " + cut[i], x.keep(kept[i]), true);
            if (left[i] >= 0) {
                reads(x, left[i]);
            } else {
                Due.due("wide() of what is left of " + cut[i], x.wide(), false);
                Due.due("narrow() of what is left of " + cut[i], x.narrow(), false);
            }
        }
        NearestReader x = filled(2400);
        Due.due("keep(2399) of 2400", x.keep(2399), true);
        Due.due("length()", x.length(), 2399);
        Due.due("keep(0) of 2399", x.keep(0), true);
        Due.due("length()", x.length(), 0);
    }

    private static void keepingRefused() {
        Due.sentence("3: false, refused, when n is below 0");
        NearestReader x = Due.holding("12.5");
        reads(x, 12.5);
        for (int n : new int[] {-1, -2, -4, -2400, Integer.MIN_VALUE + 1, Integer.MIN_VALUE}) {
            refuses(x, n);
        }
        Due.due("keep(-1) of nothing", new NearestReader().keep(-1), false);

        Due.sentence("3: or it has not more than n");
        for (int n : new int[] {4, 5, 6, 2399, 2400, 2401, Integer.MAX_VALUE}) {
            refuses(x, n);
        }
        Due.due("keep(0) of nothing", new NearestReader().keep(0), false);
        Due.due("keep(1) of nothing", new NearestReader().keep(1), false);
        NearestReader full = filled(2400);
        Due.due("keep(2400) of 2400", full.keep(2400), false);
        Due.due("keep(2401) of 2400", full.keep(2401), false);
        Due.due("length()", full.length(), 2400);
        Due.due("keep(3) of 4", x.keep(3), true);
        Due.due("keep(3) of 3", x.keep(3), false);
        Due.due("length()", x.length(), 3);
    }

    private static void refuses(NearestReader x, int n) {
        Due.due("keep(" + n + ") of 12.5", x.keep(n), false);
        Due.due("length() after keep(" + n + ")", x.length(), 4);
        reads(x, 12.5);
    }

    private static void lengths() {
        Due.sentence("4: How many characters the text has");
        NearestReader x = new NearestReader();
        Due.due("length() of none", x.length(), 0);
        for (int i = 1; i <= 300; i++) {
            x.write(EIGHT_NINES);
            if (i % 50 == 0) {
                Due.due("length() after write " + i, x.length(), 8 * i);
            }
        }
        x.wide();
        Due.due("length() after wide()", x.length(), 2400);
        x.keep(17);
        Due.due("length() after keep(17)", x.length(), 17);
        NearestReader blanks = Due.holding(" \t 1 \n");
        Due.due("wide()", blanks.wide(), true);
        Due.due("length() with its blanks", blanks.length(), 6);
    }

    private static void readingWide() {
        Due.sentence("5: the result is then NONE (sign 0, E 2047, F 2^51) for NaN");
        Due.wide("NaN", WIDE_NONE);
        Due.wide("+NaN", WIDE_NONE);
        Due.wide("-NaN", WIDE_NONE);
        Due.sentence("5: otherwise the NEAREST number to the size that it says");
        Due.wide("3.14", 0x40091EB851EB851FL);
        Due.wide("9007199254740993", 0x4340000000000000L);
        Due.wide("9007199254740993." + "0".repeat(2380) + "1", 0x4340000000000001L);
        Due.wide("2.4703282292062327e-324", 0);
        Due.wide("2.4703282292062328e-324", 1);
        Due.wide("1e309", WIDE_INFINITE);
        Due.wide("0x1.999999999999ap-4", 0x3FB999999999999AL);
        Due.sentence("5: (INFINITE for Infinity)");
        Due.wide("Infinity", WIDE_INFINITE);
        Due.sentence("5: with sign 1 when it has a -");
        Due.wide("-3.14", 0xC0091EB851EB851FL);
        Due.wide("+3.14", 0x40091EB851EB851FL);
        Due.wide("-Infinity", WIDE_SIGN | WIDE_INFINITE);
        Due.wide("-1e309", WIDE_SIGN | WIDE_INFINITE);
        Due.wide("-0", WIDE_SIGN);
        Due.wide("-0x0p0", WIDE_SIGN);
        Due.wide("-1e-999", WIDE_SIGN);
        Due.wide("-0x1p-9999", WIDE_SIGN);
    }

    private static void readingNarrow() {
        Due.sentence("6: (NONE: sign 0, E 255, F 2^22)");
        Due.narrow("NaN", NARROW_NONE);
        Due.narrow("+NaN", NARROW_NONE);
        Due.narrow("-NaN", NARROW_NONE);
        Due.sentence("6: The same as a NARROW number");
        Due.narrow("3.14", 0x4048F5C3L);
        Due.narrow("16777217", 0x4B800000L);
        Due.narrow("16777217." + "0".repeat(2380) + "1", 0x4B800001L);
        Due.narrow("7.006492321624085e-46", 0);
        Due.narrow("7.006492321624086e-46", 1);
        Due.narrow("1e39", NARROW_INFINITE);
        Due.narrow("0x1.99999ap-4", 0x3DCCCCCDL);
        Due.narrow("Infinity", NARROW_INFINITE);
        Due.narrow("-3.14", 0xC048F5C3L);
        Due.narrow("-Infinity", NARROW_SIGN | NARROW_INFINITE);
        Due.narrow("-1e39", NARROW_SIGN | NARROW_INFINITE);
        Due.narrow("-0", NARROW_SIGN);
        Due.narrow("-0x0p0", NARROW_SIGN);
        Due.narrow("-1e-99", NARROW_SIGN);
        Due.narrow("-0x1p-999", NARROW_SIGN);
    }

    private static void noNumeral() {
        Due.sentence("5 and 6: False when it is none; the result stays");
        for (String text : new String[] {"", " ", ".", "-", "1e", "0x1", "0x1.8", "1 2", "nan", "NaNf", "1ff", "e1", "x",
                "Infinity1", "9".repeat(2399) + "x", "?" + "9".repeat(2399), "1" + " ".repeat(2398) + "1"}) {
            Due.none(text);
        }
        NearestReader x = Due.holding("NaN");
        Due.due("narrow()", x.narrow(), true);
        Due.write(x, "1");
        Due.due("wide() of NaN1", x.wide(), false);
        Due.due("bits() stay NONE", x.bits(), NARROW_NONE);
        // A text that begins as a NUMERAL and has found sign, digits and power before it turns out to be none.
        NearestReader y = Due.holding("-1e5");
        Due.due("wide()", y.wide(), true);
        Due.write(y, "e");
        Due.due("wide() of -1e5e", y.wide(), false);
        Due.due("bits() stay", y.bits(), 0xC0F86A0000000000L);
    }

    private static void textStays() {
        Due.sentence("5 and 6: The text stays");
        NearestReader x = Due.holding(" -12.50e1f ");
        for (int i = 0; i < 3; i++) {
            reads(x, -125);
            Due.due("length()", x.length(), 11);
        }
        Due.due("keep(7)", x.keep(7), true);
        reads(x, -12.5);
        Due.due("write(?)", x.write('?'), true);
        Due.due("wide()", x.wide(), false);
        Due.due("narrow()", x.narrow(), false);
        Due.due("length()", x.length(), 8);
        Due.due("keep(5)", x.keep(5), true);
        reads(x, -12);
        String full = "0x" + "1".repeat(2391) + "p-9560";
        NearestReader y = new NearestReader();
        Due.write(y, full);
        for (int i = 0; i < 3; i++) {
            Due.due("wide() of a long one", y.wide(), true);
            Due.due("bits()", y.bits(), 0x3FF1111111111111L);
            Due.due("length()", y.length(), full.length());
        }
    }

    private static void result() {
        Due.sentence("7: The result");
        NearestReader x = Due.holding("0.1");
        Due.due("bits() before", x.bits(), 0);
        Due.due("wide()", x.wide(), true);
        Due.due("bits()", x.bits(), 0x3FB999999999999AL);
        Due.due("bits() again", x.bits(), 0x3FB999999999999AL);
        Due.due("narrow()", x.narrow(), true);
        Due.due("bits() of narrow", x.bits(), 0x3DCCCCCDL);
        Due.due("wide()", x.wide(), true);
        Due.due("bits() of wide again", x.bits(), 0x3FB999999999999AL);
        Due.sentence("7: no other call changes it");
        x.write('?');
        x.keep(3);
        x.keep(9);
        x.length();
        x.narrowed(0x3FF0000000000000L);
        x.widened(0x3F800000L);
        x.quotient(-7, 9, true);
        x.quotient(0, 0, false);
        x.compare(1, 2, true);
        x.readings();
        Due.due("bits() after all others", x.bits(), 0x3FB999999999999AL);
    }

    private static void narrowing() {
        Due.sentence("8: of its size the NEAREST, with its sign");
        narrowed(0x3FF0000000000000L, 0x3F800000L);
        narrowed(0x40091EB851EB851FL, 0x4048F5C3L);
        narrowed(0x3FB999999999999AL, 0x3DCCCCCDL);
        narrowed(0, 0);
        // As near to two: 1 + 2^-24 and 1 + 3 * 2^-24, and their neighbours.
        narrowed(0x3FF0000010000000L, 0x3F800000L);
        narrowed(0x3FF0000010000001L, 0x3F800001L);
        narrowed(0x3FF000000FFFFFFFL, 0x3F800000L);
        narrowed(0x3FF0000030000000L, 0x3F800002L);
        narrowed(0x3FF0000030000001L, 0x3F800002L);
        narrowed(0x3FF000002FFFFFFFL, 0x3F800001L);
        // Up to the next power of two.
        narrowed(0x3FEFFFFFF0000000L, 0x3F800000L);
        narrowed(0x3FEFFFFFEFFFFFFFL, 0x3F7FFFFFL);

        Due.sentence("8: INFINITE for INFINITE");
        narrowed(WIDE_INFINITE, NARROW_INFINITE);
        Due.sentence("8: NONE (sign 0, F 2^22) for NONE");
        for (long f : new long[] {1, 1L << 28, 1L << 29, 1L << 51, (1L << 52) - 1}) {
            Due.due("narrowed(NONE)", new NearestReader().narrowed(WIDE_INFINITE | f), NARROW_NONE);
            Due.due("narrowed(-NONE)", new NearestReader().narrowed(WIDE_SIGN | WIDE_INFINITE | f), NARROW_NONE);
        }
    }

    private static void narrowingEdges() {
        Due.sentence("8: a size that is too small");
        narrowed(1, 0);
        narrowed(0x000FFFFFFFFFFFFFL, 0);
        narrowed(0x0010000000000000L, 0);
        narrowed(0x3680000000000000L, 0);
        narrowed(0x368FFFFFFFFFFFFFL, 0);
        narrowed(0x3690000000000000L, 0);
        narrowed(0x3690000000000001L, 1);
        narrowed(0x36A0000000000000L, 1);
        narrowed(0x36A7FFFFFFFFFFFFL, 1);
        narrowed(0x36A8000000000000L, 2);
        narrowed(0x36B4000000000000L, 2);
        Due.sentence("8: a size from which E is not 0");
        narrowed(0x380FFFFFC0000000L, 0x007FFFFFL);
        narrowed(0x380FFFFFDFFFFFFFL, 0x007FFFFFL);
        narrowed(0x380FFFFFE0000000L, 0x00800000L);
        narrowed(0x3810000000000000L, 0x00800000L);
        narrowed(0x3810000010000000L, 0x00800000L);
        narrowed(0x3810000030000000L, 0x00800002L);
        Due.sentence("8: a size that is too large");
        narrowed(0x47EFFFFFE0000000L, NARROW_GREATEST);
        narrowed(0x47EFFFFFEFFFFFFFL, NARROW_GREATEST);
        narrowed(0x47EFFFFFF0000000L, NARROW_INFINITE);
        narrowed(0x47F0000000000000L, NARROW_INFINITE);
        narrowed(WIDE_GREATEST, NARROW_INFINITE);
    }

    private static void narrowed(long wide, long narrow) {
        Due.due("narrowed(" + wide + ")", new NearestReader().narrowed(wide), narrow);
        long below = wide | WIDE_SIGN;
        Due.due("narrowed(" + below + ")", new NearestReader().narrowed(below), narrow | NARROW_SIGN);
    }

    private static void widening() {
        Due.sentence("9: The WIDE number that is just a NARROW one");
        widened(0, 0);
        widened(1, 0x36A0000000000000L);
        widened(0x007FFFFFL, 0x380FFFFFC0000000L);
        widened(0x00800000L, 0x3810000000000000L);
        widened(0x3DCCCCCDL, 0x3FB99999A0000000L);
        widened(0x3F800001L, 0x3FF0000020000000L);
        widened(NARROW_GREATEST, 0x47EFFFFFE0000000L);
        widened(NARROW_INFINITE, WIDE_INFINITE);
        for (int bit = 0; bit < 23; bit++) {
            widened(1L << bit, (long) (1023 - 149 + bit) << 52);
        }
        Due.sentence("9: NONE (sign 0, F 2^51) for NONE");
        for (long f : new long[] {1, 1L << 21, 1L << 22, (1L << 23) - 1}) {
            Due.due("widened(NONE)", new NearestReader().widened(NARROW_INFINITE | f), WIDE_NONE);
            Due.due("widened(-NONE)", new NearestReader().widened(NARROW_SIGN | NARROW_INFINITE | f), WIDE_NONE);
            Due.due("widened(bits above)", new NearestReader().widened(-1L << 31 | NARROW_INFINITE | f), WIDE_NONE);
        }
    }

    private static void widened(long narrow, long wide) {
        NearestReader x = new NearestReader();
        Due.due("widened(" + narrow + ")", x.widened(narrow), wide);
        Due.due("widened(-" + narrow + ")", x.widened(narrow | NARROW_SIGN), wide | WIDE_SIGN);
        Due.due("widened(" + narrow + " with bits above)", x.widened(narrow | 0xA5A5A5A5L << 32), wide);
    }

    private static void dividing() {
        long least = Long.MIN_VALUE;
        long most = Long.MAX_VALUE;
        Due.sentence("10: The NEAREST number (WIDE, or else NARROW) to the size of a / b");
        divided(1, 3, 0x3FD5555555555555L, 0x3EAAAAABL);
        divided(2, 3, 0x3FE5555555555555L, 0x3F2AAAABL);
        divided(1, 10, 0x3FB999999999999AL, 0x3DCCCCCDL);
        divided(1, 1, 0x3FF0000000000000L, 0x3F800000L);
        divided(1, most, 0x3C00000000000000L, 0x20000000L);
        divided(most, 1, 0x43E0000000000000L, 0x5F000000L);
        divided(most, most, 0x3FF0000000000000L, 0x3F800000L);
        divided(most - 1, most, 0x3FF0000000000000L, 0x3F800000L);
        divided(most, most - 1, 0x3FF0000000000000L, 0x3F800000L);
        divided(most, 3, 0x43C5555555555555L, 0x5E2AAAABL);
        Due.sentence("10: the size of a / b itself, though neither of a and b is a number of the kind");
        divided(9223372036854775807L, 4611686018427387905L, 0x4000000000000000L, 0x40000000L);
        divided(5069452754643211893L, 3662919915061528752L, 0x3FF624D50D403966L, 0x3FB126A8L);
        divided(7168724689662091096L, 1470204903839522129L, 0x4013810723806C1CL, 0x409C0839L);
        divided(8892195309662416754L, 1237307166336130184L, 0x401CBF36BCDAE143L, 0x40E5F9B6L);
        Due.sentence("10: the NEAREST of two that are as near");
        divided((1L << 53) + 1, 1, 0x4340000000000000L, 0x5A000000L);
        divided((1L << 53) + 3, 1, 0x4340000000000002L, 0x5A000000L);
        divided((1L << 53) + 1, 1L << 53, 0x3FF0000000000000L, 0x3F800000L);
        divided((1L << 53) + 3, 1L << 53, 0x3FF0000000000002L, 0x3F800000L);
        divided((1L << 54) - 1, 1, 0x4350000000000000L, 0x5A800000L);
        divided((1L << 24) + 1, 1, 0x4170000010000000L, 0x4B800000L);
        divided((1L << 24) + 3, 1, 0x4170000030000000L, 0x4B800002L);
        divided((1L << 25) - 1, 1, 0x417FFFFFF0000000L, 0x4C000000L);
        // Half way is left by a little only: by a 62nd bit, or by less than any bit of a or b.
        divided((1L << 62) + (1L << 38) + 1, 1, 0x43D0000010000000L, 0x5E800001L);
        divided((1L << 62) + (1L << 38) - 1, 1, 0x43D0000010000000L, 0x5E800000L);
        divided((1L << 62) + (1L << 9) + 1, 1, 0x43D0000000000001L, 0x5E800000L);
        divided((1L << 62) + (1L << 9), 1, 0x43D0000000000000L, 0x5E800000L);
        divided(3 * ((1L << 53) + 1) + 1, 3, 0x4340000000000001L, 0x5A000000L);
        divided(3 * ((1L << 53) + 1) - 1, 3, 0x4340000000000000L, 0x5A000000L);

        Due.sentence("10: with sign 1 when just one of a and b is below 0");
        quotient(-1, 2, 0xBFE0000000000000L, 0xBF000000L);
        quotient(1, -2, 0xBFE0000000000000L, 0xBF000000L);
        quotient(-1, -2, 0x3FE0000000000000L, 0x3F000000L);
        quotient(1, 2, 0x3FE0000000000000L, 0x3F000000L);
        Due.sentence("10: the size of the least a and b there are");
        quotient(least, 1, 0xC3E0000000000000L, 0xDF000000L);
        quotient(least, -1, 0x43E0000000000000L, 0x5F000000L);
        quotient(1, least, 0xBC00000000000000L, 0xA0000000L);
        quotient(-1, least, 0x3C00000000000000L, 0x20000000L);
        quotient(least, least, 0x3FF0000000000000L, 0x3F800000L);
        quotient(least, most, 0xBFF0000000000000L, 0xBF800000L);
        quotient(most, least, 0xBFF0000000000000L, 0xBF800000L);
        quotient(least, 3, 0xC3C5555555555555L, 0xDE2AAAABL);
    }

    private static void dividingByZero() {
        long[] wholes = {1, 2, 1L << 31, 1L << 32, 1L << 52, Long.MAX_VALUE};
        Due.sentence("10: with b 0: INFINITE with the sign of a");
        for (long a : wholes) {
            quotient(a, 0, WIDE_INFINITE, NARROW_INFINITE);
            quotient(-a, 0, WIDE_SIGN | WIDE_INFINITE, NARROW_SIGN | NARROW_INFINITE);
        }
        quotient(Long.MIN_VALUE, 0, WIDE_SIGN | WIDE_INFINITE, NARROW_SIGN | NARROW_INFINITE);
        Due.sentence("10: NONE (sign 0, highest bit of F 1) if a is 0, too");
        quotient(0, 0, WIDE_NONE, NARROW_NONE);
        Due.sentence("10: with a 0 and b not: 0 with sign 0");
        for (long b : wholes) {
            quotient(0, b, 0, 0);
            quotient(0, -b, 0, 0);
        }
        quotient(0, Long.MIN_VALUE, 0, 0);
    }

    /** A and b are not below 0: all four signs. */
    private static void divided(long a, long b, long wide, long narrow) {
        quotient(a, b, wide, narrow);
        quotient(-a, b, wide | WIDE_SIGN, narrow | NARROW_SIGN);
        quotient(a, -b, wide | WIDE_SIGN, narrow | NARROW_SIGN);
        quotient(-a, -b, wide, narrow);
    }

    private static void quotient(long a, long b, long wide, long narrow) {
        NearestReader x = new NearestReader();
        Due.due("quotient(" + a + ", " + b + ", true)", x.quotient(a, b, true), wide);
        Due.due("quotient(" + a + ", " + b + ", false)", x.quotient(a, b, false), narrow);
    }

    private static void comparing() {
        Due.sentence("11: -1, 0 or 1 when x is below, equal to or above y");
        compared(0x3FF0000000000000L, 0x4000000000000000L, 0x3F800000L, 0x40000000L);
        compared(0, 1, 0, 1);
        compared(1, 2, 1, 2);
        compared(0x000FFFFFFFFFFFFFL, 0x0010000000000000L, 0x007FFFFFL, 0x00800000L);
        compared(0x3FEFFFFFFFFFFFFFL, 0x3FF0000000000000L, 0x3F7FFFFFL, 0x3F800000L);
        compared(WIDE_GREATEST - 1, WIDE_GREATEST, NARROW_GREATEST - 1, NARROW_GREATEST);
        // Below 0 the greater size is the lower number, and each is lower than any that is not below 0.
        compared(0xC000000000000000L, 0xBFF0000000000000L, 0xC0000000L, 0xBF800000L);
        compared(WIDE_SIGN | 2, WIDE_SIGN | 1, NARROW_SIGN | 2, NARROW_SIGN | 1);
        compared(WIDE_SIGN | 1, WIDE_SIGN, NARROW_SIGN | 1, NARROW_SIGN);
        compared(WIDE_SIGN | 1, 0, NARROW_SIGN | 1, 0);
        compared(WIDE_SIGN, 1, NARROW_SIGN, 1);
        compared(WIDE_SIGN | 1, 1, NARROW_SIGN | 1, 1);
        compared(WIDE_SIGN | WIDE_GREATEST, WIDE_GREATEST, NARROW_SIGN | NARROW_GREATEST, NARROW_GREATEST);
        compared(0xBFF0000000000000L, 0x3FE0000000000000L, 0xBF800000L, 0x3F000000L);

        Due.sentence("11: equal to (also 0 of both signs)");
        NearestReader x = new NearestReader();
        Due.due("compare(0, -0, true)", x.compare(0, WIDE_SIGN, true), 0);
        Due.due("compare(-0, 0, true)", x.compare(WIDE_SIGN, 0, true), 0);
        Due.due("compare(-0, -0, true)", x.compare(WIDE_SIGN, WIDE_SIGN, true), 0);
        Due.due("compare(0, 0, true)", x.compare(0, 0, true), 0);
        Due.due("compare(0, -0, false)", x.compare(0, NARROW_SIGN, false), 0);
        Due.due("compare(-0, 0, false)", x.compare(NARROW_SIGN, 0, false), 0);
        Due.due("compare(-0, -0, false)", x.compare(NARROW_SIGN, NARROW_SIGN, false), 0);
        Due.due("compare(0, 0, false)", x.compare(0, 0, false), 0);
        Due.due("compare(0 with bits above, -0, false)", x.compare(WIDE_SIGN, NARROW_SIGN, false), 0);
        Due.due("compare(1, -1, true)", x.compare(0x3FF0000000000000L, 0xBFF0000000000000L, true), 1);
    }

    private static void comparingInfinite() {
        Due.sentence("11: INFINITE is beyond all others");
        long[] wides = {0, 1, 0x0010000000000000L, 0x3FF0000000000000L, WIDE_GREATEST};
        long[] narrows = {0, 1, 0x00800000L, 0x3F800000L, NARROW_GREATEST};
        for (int i = 0; i < wides.length; i++) {
            compared(wides[i], WIDE_INFINITE, narrows[i], NARROW_INFINITE);
            compared(wides[i] | WIDE_SIGN, WIDE_INFINITE, narrows[i] | NARROW_SIGN, NARROW_INFINITE);
            compared(WIDE_SIGN | WIDE_INFINITE, wides[i], NARROW_SIGN | NARROW_INFINITE, narrows[i]);
            compared(WIDE_SIGN | WIDE_INFINITE, wides[i] | WIDE_SIGN, NARROW_SIGN | NARROW_INFINITE,
                narrows[i] | NARROW_SIGN);
        }
        compared(WIDE_SIGN | WIDE_INFINITE, WIDE_INFINITE, NARROW_SIGN | NARROW_INFINITE, NARROW_INFINITE);
    }

    private static void comparingNone() {
        Due.sentence("11: 2 when one is NONE");
        long[] wides = {0, WIDE_SIGN, 1, 0x3FF0000000000000L, 0xBFF0000000000000L, WIDE_GREATEST, WIDE_INFINITE,
            WIDE_SIGN | WIDE_INFINITE, WIDE_NONE, -1L};
        long[] narrows = {0, NARROW_SIGN, 1, 0x3F800000L, 0xBF800000L, NARROW_GREATEST, NARROW_INFINITE,
            NARROW_SIGN | NARROW_INFINITE, NARROW_NONE, 0xFFFFFFFFL};
        long[] wideNone = {WIDE_NONE, WIDE_INFINITE | 1, WIDE_SIGN | WIDE_INFINITE | 1, Long.MAX_VALUE, -1L};
        long[] narrowNone = {NARROW_NONE, NARROW_INFINITE | 1, NARROW_SIGN | NARROW_INFINITE | 1, 0x7FFFFFFFL, -1L};
        for (int i = 0; i < wideNone.length; i++) {
            NearestReader x = new NearestReader();
            for (int j = 0; j < wides.length; j++) {
                Due.due("compare(NONE, " + wides[j] + ", true)", x.compare(wideNone[i], wides[j], true), 2);
                Due.due("compare(" + wides[j] + ", NONE, true)", x.compare(wides[j], wideNone[i], true), 2);
                Due.due("compare(NONE, " + narrows[j] + ", false)", x.compare(narrowNone[i], narrows[j], false), 2);
                Due.due("compare(" + narrows[j] + ", NONE, false)", x.compare(narrows[j], narrowNone[i], false), 2);
            }
        }
        Due.sentence("11: a NONE of the one kind is none of the other");
        NearestReader x = new NearestReader();
        Due.due("compare(NARROW NONE's bits, 0, true)", x.compare(NARROW_NONE, 0, true), 1);
        Due.due("compare(WIDE NONE's bits, 0, false)", x.compare(WIDE_NONE, 0, false), 0);
    }

    /** The first of each kind is below the second. */
    private static void compared(long lowWide, long highWide, long lowNarrow, long highNarrow) {
        compared(lowWide, highWide, true);
        compared(lowNarrow, highNarrow, false);
        compared(lowNarrow | 0xFFF8000100000000L, highNarrow, false);
        compared(lowNarrow, highNarrow | 0xFFF8000100000000L, false);
    }

    private static void compared(long low, long high, boolean wide) {
        NearestReader x = new NearestReader();
        String pair = "(" + low + ", " + high + ", " + wide + ")";
        Due.due("compare" + pair, x.compare(low, high, wide), -1);
        Due.due("compare turned " + pair, x.compare(high, low, wide), 1);
        Due.due("compare of the first alone " + pair, x.compare(low, low, wide), 0);
        Due.due("compare of the second alone " + pair, x.compare(high, high, wide), 0);
    }

    private static void readings() {
        Due.sentence("12: How many readings there were that found a NUMERAL");
        NearestReader x = new NearestReader();
        Due.due("readings()", x.readings(), 0);
        int due = 0;
        for (String text : new String[] {"1", "NaN", "-Infinity", "0x1p1", "1e999", "1e-999", "-0", " 5 ", "7f"}) {
            x.keep(0);
            Due.write(x, text);
            Due.due("wide() of " + text, x.wide(), true);
            Due.due("readings() after wide() of " + text, x.readings(), due + 1);
            Due.due("narrow() of " + text, x.narrow(), true);
            Due.due("readings() after narrow() of " + text, x.readings(), due + 2);
            due += 2;
        }
        Due.sentence("12: one that found none is not counted, and no other call");
        for (String text : new String[] {"?", "1e", "NaNd", " ", "0x1"}) {
            x.keep(0);
            Due.write(x, text);
            Due.due("wide() of " + text, x.wide(), false);
            Due.due("narrow() of " + text, x.narrow(), false);
            Due.due("readings() after " + text, x.readings(), due);
        }
        x.bits();
        x.length();
        x.keep(-1);
        x.narrowed(7);
        x.widened(7);
        x.quotient(7, 7, true);
        x.compare(7, 7, false);
        x.readings();
        Due.due("readings() after the others", x.readings(), due);

        Due.sentence("12: readings of this object alone");
        NearestReader one = Due.holding("1");
        NearestReader other = Due.holding("2");
        Due.due("wide() of one", one.wide(), true);
        Due.due("wide() of the other", other.wide(), true);
        Due.due("narrow() of the other", other.narrow(), true);
        Due.due("readings() of one", one.readings(), 1);
        Due.due("readings() of the other", other.readings(), 2);
        Due.due("readings() of the first", x.readings(), due);
    }

    private static NearestReader filled(int count) {
        NearestReader x = new NearestReader();
        Due.write(x, "9".repeat(count));
        Due.due("length() filled", x.length(), count);
        return x;
    }

    /** The text says this number, which both kinds have. */
    private static void reads(NearestReader x, double number) {
        Due.due("wide()", x.wide(), true);
        Due.due("bits() for " + number, x.bits(), Double.doubleToRawLongBits(number));
        Due.due("narrow()", x.narrow(), true);
        Due.due("bits() for " + (float) number, x.bits(), Float.floatToRawIntBits((float) number) & 0xFFFFFFFFL);
    }
}
