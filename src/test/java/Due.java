import java.math.BigDecimal;
import java.math.BigInteger;

/** What the tests share: counting wrong answers, writing texts, and the exact answer by whole numbers. */
final class Due {
    private static int asked = 0;
    private static int wrong = 0;
    private static int sentences = 0;
    private static int askedBefore = 0;
    private static String sentence = "";
    private static long seed = 20261115L;

    private Due() {
    }

    static void due(String call, long got, long want) {
        asked++;
        if (got != want) {
            wrong++;
            String shown = call.length() > 200 ? call.substring(0, 200) + ".. (" + call.length() + ")" : call;
            System.out.println(sentence + shown + " answered " + got + ", due is " + want);
        }
    }

    /** What is asked from here on tests these words of the document. */
    static void sentence(String words) {
        endSentence();
        sentences++;
        sentence = "[" + words + "] ";
    }

    /** A sentence that nothing was asked for has no test. */
    private static void endSentence() {
        if (sentences > 0 && asked == askedBefore) {
            wrong++;
            System.out.println(sentence + "has no test");
        }
        askedBefore = asked;
    }

    static void due(String call, boolean got, boolean want) {
        due(call, got ? 1 : 0, want ? 1 : 0);
    }

    /** Prints the count and ends the test. */
    static void end() {
        endSentence();
        String of = sentences == 0 ? "" : " for " + sentences + " sentences";
        System.out.println(asked + " answers" + of + ", " + wrong + " not as due");
        if (wrong != 0 || asked == 0) {
            System.exit(1);
        }
    }

    /** The same numbers in every run, 0 .. below - 1. */
    static int pick(int below) {
        return (int) Long.remainderUnsigned(pickLong() >>> 16, below);
    }

    static long pickLong() {
        seed = seed * 6364136223846793005L + 1442695040888963407L;
        long x = seed;
        x ^= x >>> 32;
        x *= 0xD6E8FEB86659FD93L;
        return x ^ x >>> 32;
    }

    static boolean write(NearestReader reader, String text) {
        boolean all = true;
        for (int i = 0; i < text.length(); i += 8) {
            long eight = 0;
            for (int j = i; j < text.length() && j < i + 8; j++) {
                eight = eight << 8 | text.charAt(j);
            }
            all &= reader.write(eight);
        }
        return all;
    }

    static NearestReader holding(String text) {
        NearestReader reader = new NearestReader();
        due("writing " + text, write(reader, text), true);
        due("length of " + text, reader.length(), text.length());
        return reader;
    }

    static void wide(String text, long bits) {
        NearestReader reader = holding(text);
        due("wide() of " + text, reader.wide(), true);
        due("bits() after wide() of " + text, reader.bits(), bits);
        due("length() after wide() of " + text, reader.length(), text.length());
    }

    static void narrow(String text, long bits) {
        NearestReader reader = holding(text);
        due("narrow() of " + text, reader.narrow(), true);
        due("bits() after narrow() of " + text, reader.bits(), bits);
        due("length() after narrow() of " + text, reader.length(), text.length());
    }

    /** A text that is no NUMERAL: neither kind finds one, and all stays as it was. */
    static void none(String text) {
        NearestReader reader = new NearestReader();
        write(reader, "-7.5");
        due("wide() of -7.5", reader.wide(), true);
        due("keep(0)", reader.keep(0), true);
        due("writing " + text, write(reader, text), true);
        due("wide() of '" + text + "'", reader.wide(), false);
        due("narrow() of '" + text + "'", reader.narrow(), false);
        due("bits() after '" + text + "'", reader.bits(), 0xC01E000000000000L);
        due("readings() after '" + text + "'", reader.readings(), 1);
        due("length() after '" + text + "'", reader.length(), text.length());
    }

    /** A text that says this number of either kind. */
    static void says(String text, double number) {
        wide(text, Double.doubleToRawLongBits(number));
        narrow(text, Float.floatToRawIntBits((float) number) & 0xFFFFFFFFL);
    }

    /** Both kinds against the exact answer. */
    static void both(String sign, String literal) {
        boolean minus = sign.equals("-");
        BigInteger[] size = sizeOf(literal);
        wide(sign + literal, nearest(size[0], size[1], true) | (minus ? 1L << 63 : 0));
        narrow(sign + literal, nearest(size[0], size[1], false) | (minus ? 1L << 31 : 0));
    }

    /** A literal's size as numerator and denominator; its exponent must be a small one. */
    static BigInteger[] sizeOf(String literal) {
        if (!literal.startsWith("0x") && !literal.startsWith("0X")) {
            BigDecimal decimal = new BigDecimal(literal);
            int scale = decimal.scale();
            return new BigInteger[] {
                decimal.unscaledValue().multiply(BigInteger.TEN.pow(Math.max(-scale, 0))),
                BigInteger.TEN.pow(Math.max(scale, 0))
            };
        }
        int p = literal.toLowerCase().indexOf('p');
        String digits = literal.substring(2, p);
        int point = digits.indexOf('.');
        int power = Integer.parseInt(literal.substring(p + 1));
        if (point >= 0) {
            power -= 4 * (digits.length() - point - 1);
            digits = digits.replace(".", "");
        }
        BigInteger whole = new BigInteger(digits, 16);
        return new BigInteger[] {whole.shiftLeft(Math.max(power, 0)), BigInteger.ONE.shiftLeft(Math.max(-power, 0))};
    }

    /** The NEAREST number to a / b by halving the row of all numbers: their bits are in the order of their sizes. */
    static long nearest(BigInteger a, BigInteger b, boolean wide) {
        long low = 0;
        long high = wide ? 2047L << 52 : 255L << 23;
        long infinite = high;
        BigInteger scaled = a.shiftLeft(1100);
        // Low is not above a / b; high is above it or INFINITE.
        while (high - low > 1) {
            long middle = low + (high - low) / 2;
            if (scaledSize(middle, wide).multiply(b).compareTo(scaled) <= 0) {
                low = middle;
            } else {
                high = middle;
            }
        }
        // For INFINITE the size that E 2047 would have makes the half way the one that the document names.
        BigInteger twice = scaledSize(low, wide).add(scaledSize(low + 1, wide)).multiply(b);
        int side = scaled.shiftLeft(1).compareTo(twice);
        if (low + 1 == infinite) {
            return side >= 0 ? infinite : low;
        }
        return side > 0 || side == 0 && (low & 1) == 1 ? low + 1 : low;
    }

    /** The size of the number with these bits, times 2^1100. */
    private static BigInteger scaledSize(long bits, boolean wide) {
        int width = wide ? 52 : 23;
        int e = (int) (bits >>> width);
        long f = bits & (1L << width) - 1;
        int unit = (wide ? -1075 : -150) + Math.max(e, 1);
        return BigInteger.valueOf(e == 0 ? f : f + (1L << width)).shiftLeft(unit + 1100);
    }

    /** Half way between the number with these bits and the next, exactly, as a decimal literal without exponent. */
    static String halfWay(long bits, boolean wide) {
        BigInteger twice = scaledSize(bits, wide).add(scaledSize(bits + 1, wide));
        return new BigDecimal(twice).divide(new BigDecimal(BigInteger.ONE.shiftLeft(1101))).toPlainString();
    }
}
