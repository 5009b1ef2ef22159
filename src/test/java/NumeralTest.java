/** What is a NUMERAL and what is none, for both kinds (promises 5 and 6), and promises 7 and 12. */
public final class NumeralTest {
    private static final String[] NUMERALS = {
        "0", "7", "007", "1.", "1.5", ".5", "1e5", "1E5", "1e+5", "1e-5", "1.e5", ".5e5", "1.5E-05", "1e00000000005",
        "1f", "1F", "1d", "1D", "1.f", ".5d", "1e5F", "1e-5D", "+1", "-1", "+.5", "-1.e+3d", "0x1p0", "0X1P0",
        "0x1.p0", "0x1.8p1", "0x.8p1", "0xAbCdEfp-3", "0x0p0", "-0x1p+4", "+0x.1P-4f", "0x1p1d", "0x1p1F", "0x1p1D",
        "0xdp1", "0xfp1f", "0x1.fp1", "0x00001p1", "NaN", "+NaN", "-NaN", "Infinity", "+Infinity", "-Infinity",
        "0e5", "0.0", "-0", "-.0", "0x.0p9", "0f", "0d", "1e0", "1e-0", "0x1p-0",
    };
    private static final String[] NONE = {
        "", ".", "+", "-", "e5", ".e5", "1e", "1e+", "1e-", "1e5.", "1e5.5", "1e5e5", "1..", "1.2.", ".1.", "..1", "--1",
        "+-1", "-+1", "++1", "- 1", "+ 1", "1 2", "1 f", "1 e5", "1e 5", "1ff", "1fd", "1dd", "1l", "1L", "f", "d", ".f",
        "-f", "ef", "1ef", "1e+f", "0x", "0x1", "0x1.", "0x1.8", "0xp1", "0x.p1", "0x1p", "0x1p+", "0x1p-", "0x1pf",
        "0x1pA", "0x1p1.", "0x1p1p1", "0x1e5", "0x1g0p1", "x1p1", "1x1p1", "00x1p1", "0x-1p1", "0 x1p1", "0x 1p1",
        "0x1 p1", "0x1..p1", "0x1.1.p1", "1p1", "1.8p1", "0x1p1ff", "nan", "NAN", "Nan", "NaNf", "NaNd", "NaN1", "Na",
        "aN", "N", "NaNNaN", "infinity", "INFINITY", "Infinit", "nfinity", "Infinityf", "InfinityD", "Infinity1", "Inf",
        "1NaN", "1Infinity", "--NaN", "+ NaN", "Na N", "1,5", "1_0", "1e1_0", "0b1", "$1", "1%", "(1)", "abc", "1a",
        "\u00ff1", "1\u00ff", "\u00a01", "1\u0080", "1\u007f", "\u007f1", "\u00b2", "1\u0085", "1e\u00b2", "1:", "/1", "1/",
        "0x@p1", "0xGp1", "0x`p1", "0xgp1", "0x:p1", "0x/p1", "1\u00e5", "e", "E", "p", "0x1P", "1E", "1e--1", "1e+-1",
    };
    private static final String ALPHABET = "0011234567899..eE+-xXpPfFdDaAbBcCNaNInfinity  \t\u0001\u007f\u00ff";

    public static void main(String[] args) {
        for (String text : NUMERALS) {
            framed(text, true);
        }
        for (String text : NONE) {
            framed(text, false);
        }
        for (char c = 1; c < 256; c++) {
            boolean blank = c <= 32;
            found(c + "1", blank || c == '+' || c == '-' || c == '.' || c >= '0' && c <= '9');
            found("1" + c, blank || c == '.' || c >= '0' && c <= '9' || "fFdD".indexOf(c) >= 0);
            found("1" + c + "1", "eE.".indexOf(c) >= 0 || c >= '0' && c <= '9');
            found("0x1" + c + "1", c == 'p' || c == 'P');
            found(String.valueOf(c), c >= '0' && c <= '9');
        }
        asTheJavaLibrary();
        resultStays();
        Due.end();
    }

    private static void framed(String text, boolean numeral) {
        StringBuilder blanks = new StringBuilder();
        for (char c = 1; c <= 32; c++) {
            blanks.append(c);
        }
        found(text, numeral);
        found(" " + text, numeral);
        found(text + " ", numeral);
        found(blanks + text + blanks, numeral);
        found("\u0021" + text, false);
        found(text + "\u0021", false);
    }

    private static void found(String text, boolean numeral) {
        NearestReader x = Due.holding(text);
        Due.due("wide() of '" + text + "'", x.wide(), numeral);
        Due.due("readings() then", x.readings(), numeral ? 1 : 0);
        Due.due("narrow() of '" + text + "'", x.narrow(), numeral);
        Due.due("readings() then", x.readings(), numeral ? 2 : 0);
        Due.due("length() then", x.length(), text.length());
    }

    /** The document's NUMERALS are the ones of the Java library, which is asked about many a heap of characters. */
    private static void asTheJavaLibrary() {
        for (int i = 0; i < 60000; i++) {
            StringBuilder text = new StringBuilder();
            if (Due.pick(3) == 0) {
                text.append("0x");
            }
            int count = 1 + Due.pick(7);
            for (int j = 0; j < count; j++) {
                text.append(ALPHABET.charAt(Due.pick(ALPHABET.length())));
            }
            if (Due.pick(3) == 0) {
                text.append("p1");
            }
            String written = text.toString();
            boolean numeral = true;
            double due = 0;
            try {
                due = Double.parseDouble(written);
            } catch (NumberFormatException refused) {
                numeral = false;
            }
            found(written, numeral);
            NearestReader x = Due.holding(written);
            x.wide();
            Due.due("bits() of " + written, x.bits(), numeral ? Double.doubleToLongBits(due) : 0);
        }
    }

    private static void resultStays() {
        NearestReader x = Due.holding("-2.5");
        Due.due("wide()", x.wide(), true);
        long bits = Double.doubleToRawLongBits(-2.5);
        Due.due("bits()", x.bits(), bits);
        Due.due("bits() again", x.bits(), bits);
        Due.write(x, "?");
        Due.due("bits() after write", x.bits(), bits);
        Due.due("wide() of none", x.wide(), false);
        Due.due("narrow() of none", x.narrow(), false);
        Due.due("bits() stay", x.bits(), bits);
        Due.due("readings() stay", x.readings(), 1);
        Due.due("keep(4)", x.keep(4), true);
        Due.due("narrow()", x.narrow(), true);
        // No bits above the lowest 32, though the sign is 1.
        Due.due("narrow bits()", x.bits(), 0xC0200000L);
        Due.due("readings()", x.readings(), 2);
        x.quotient(1, 3, true);
        x.narrowed(5);
        x.widened(5);
        x.compare(1, 2, true);
        Due.due("bits() after other calls", x.bits(), 0xC0200000L);
        Due.due("readings() after other calls", x.readings(), 2);
        Due.due("length() after other calls", x.length(), 4);
        for (int i = 3; i <= 200; i++) {
            Due.due("reading " + i, (i & 1) == 0 ? x.wide() : x.narrow(), true);
            Due.due("readings() " + i, x.readings(), i);
        }
    }
}
