/** Reads texts as binary fractions of two kinds, each to the nearest that there is, whatever its length. */
public final class NearestReader {
    private static final int MOST_CHARACTERS = 2400;

    private final char[] text;
    private final Numeral numeral;
    private final Decimal decimal;
    private final Fraction fraction;
    private int filled;
    private long result;
    private int found;

    public NearestReader() {
        numeral = new Numeral();
        decimal = new Decimal();
        text = numeral.text;
        fraction = decimal.fraction;
        filled = 0;
        result = 0;
        found = 0;
    }

    public boolean write(long eight) {
        if (filled + countCharacters(eight) > MOST_CHARACTERS) {
            return false;
        }
        for (int shift = 56; shift >= 0; shift -= 8) {
            char c = (char) (eight >>> shift & 255);
            if (c != 0 && filled < text.length) {
                text[filled] = c;
                filled++;
            }
        }
        return true;
    }

    public boolean keep(int n) {
        if (n < 0 || filled <= n) {
            return false;
        }
        filled = n;
        return true;
    }

    public int length() {
        return filled;
    }

    public boolean wide() {
        return readAs(Kind.WIDE);
    }

    public boolean narrow() {
        return readAs(Kind.NARROW);
    }

    public long bits() {
        return result;
    }

    public long narrowed(long wide) {
        return converted(wide, Kind.WIDE, Kind.NARROW);
    }

    public long widened(long narrow) {
        return converted(narrow, Kind.NARROW, Kind.WIDE);
    }

    public long quotient(long a, long b, boolean wide) {
        Kind kind = wide ? Kind.WIDE : Kind.NARROW;
        if (b == 0) {
            return a == 0 ? kind.none : kind.signed(kind.infinite, a < 0);
        }
        if (a == 0) {
            return 0;
        }
        fraction.top.set(a < 0 ? -a : a);
        fraction.bottom.set(b < 0 ? -b : b);
        return kind.signed(fraction.nearest(kind, 0), (a < 0) != (b < 0));
    }

    public int compare(long x, long y, boolean wide) {
        Kind kind = wide ? Kind.WIDE : Kind.NARROW;
        if (kind.isNone(x) || kind.isNone(y)) {
            return 2;
        }
        long rankX = kind.rank(x);
        long rankY = kind.rank(y);
        if (rankX == rankY) {
            return 0;
        }
        return rankX < rankY ? -1 : 1;
    }

    public int readings() {
        return found;
    }

    private static int countCharacters(long eight) {
        int count = 0;
        for (int shift = 56; shift >= 0; shift -= 8) {
            if ((eight >>> shift & 255) != 0) {
                count++;
            }
        }
        return count;
    }

    private boolean readAs(Kind kind) {
        if (!numeral.findIn(filled)) {
            return false;
        }
        found++;
        result = numeral.form == Numeral.NOT_A_NUMBER ? kind.none : kind.signed(sizeAs(kind), numeral.minus);
        return true;
    }

    private long sizeAs(Kind kind) {
        if (numeral.form == Numeral.INFINITY) {
            return kind.infinite;
        }
        if (numeral.form == Numeral.HEXADECIMAL) {
            return nearestHexadecimal(kind);
        }
        return decimal.nearest(numeral, kind);
    }

    private long nearestHexadecimal(Kind kind) {
        long lead = 0;
        int power = numeral.power;
        boolean behindPoint = false;
        boolean more = false;
        for (int i = numeral.from; i < numeral.to && i < text.length; i++) {
            if (text[i] == '.') {
                behindPoint = true;
                continue;
            }
            if (behindPoint) {
                power -= 4;
            }
            int digit = digitOf(text[i]);
            if (lead >>> 56 == 0) {
                lead = lead << 4 | digit;
            } else {
                // 57 bits or more are there, so the rest only says whether there is more behind them
                power += 4;
                more = more || digit != 0;
            }
        }
        return kind.nearest(lead, power, more);
    }

    private static long converted(long number, Kind from, Kind to) {
        if (from.isNone(number)) {
            return to.none;
        }
        long size = from.sizeOf(number);
        boolean below = from.isBelow(number);
        if (size == from.infinite) {
            return to.signed(to.infinite, below);
        }
        long hidden = 1L << (from.precision - 1);
        int exponent = (int) (size >>> (from.precision - 1));
        long lead = size & (hidden - 1);
        if (exponent == 0) {
            return to.signed(to.nearest(lead, from.lowestUnit, false), below);
        }
        return to.signed(to.nearest(hidden + lead, from.lowestUnit + exponent - 1, false), below);
    }

    /** The worth of a digit of any base up to 16; 16 for what is no digit. */
    private static int digitOf(char c) {
        if (c >= '0' && c <= '9') {
            return c - '0';
        }
        if (c >= 'a' && c <= 'f') {
            return c - 'a' + 10;
        }
        if (c >= 'A' && c <= 'F') {
            return c - 'A' + 10;
        }
        return 16;
    }

    private static int bitLengthOf(long unsigned) {
        long rest = unsigned;
        int count = 0;
        for (int step = 32; step > 0; step >>= 1) {
            if (rest >>> step != 0) {
                rest >>>= step;
                count += step;
            }
        }
        return rest == 0 ? 0 : count + 1;
    }

    /** A kind of number, with what is known of its edges. */
    private enum Kind {
        // A number half way between two WIDE ones has at most 768 decimal digits, between two NARROW ones 113.
        WIDE(53, -1074, 971, 770, -323, 309),
        NARROW(24, -149, 104, 115, -45, 39);

        /** How many bits a number has from its highest, when E is not 0. */
        final int precision;
        /** The power of two of which all numbers are multiples. */
        final int lowestUnit;
        /** The power of two of which the greatest number is an odd multiple. */
        final int highestUnit;
        /** Digits behind so many cannot tell more than that there are some. */
        final int mostDigits;
        /** A size below 10 to a power that is below this one is 0. */
        final int lowestPlace;
        /** A size that is not below 10 to this power is INFINITE. */
        final int highestPlace;
        final long signBit;
        final long infinite;
        final long none;

        Kind(int precision, int lowestUnit, int highestUnit, int mostDigits, int lowestPlace, int highestPlace) {
            this.precision = precision;
            this.lowestUnit = lowestUnit;
            this.highestUnit = highestUnit;
            this.mostDigits = mostDigits;
            this.lowestPlace = lowestPlace;
            this.highestPlace = highestPlace;
            this.infinite = (long) (highestUnit - lowestUnit + 2) << (precision - 1);
            this.none = this.infinite | 1L << (precision - 2);
            this.signBit = this.infinite + (1L << (precision - 1));
        }

        long sizeOf(long number) {
            return number & (signBit - 1);
        }

        boolean isBelow(long number) {
            return (number & signBit) != 0;
        }

        boolean isNone(long number) {
            return sizeOf(number) > infinite;
        }

        long signed(long size, boolean below) {
            return below ? size | signBit : size;
        }

        /** A long for each number that is not NONE, in the numbers' order. */
        long rank(long number) {
            return isBelow(number) ? -sizeOf(number) : sizeOf(number);
        }

        /**
         * The NEAREST number to lead * 2^power; with more, to a size above that and below (lead + 1) * 2^power,
         * and then lead must have more bits than the kind's precision. Lead is not below 0.
         */
        long nearest(long lead, int power, boolean more) {
            if (lead == 0) {
                return 0;
            }
            int unit = Math.max(power + bitLengthOf(lead) - precision, lowestUnit);
            if (unit > highestUnit) {
                return infinite;
            }
            long count = unit <= power ? lead << (power - unit) : rounded(lead, unit - power, more);
            // Count holds the highest bit, too, so it adds one to E where it has it, and one more where it was
            // rounded up to a power of two: also from the greatest number to INFINITE.
            return ((long) (unit - lowestUnit) << (precision - 1)) + count;
        }

        private static long rounded(long lead, int dropped, boolean more) {
            if (dropped > 63) {
                // Lead has at most 63 bits, so it is below half of 2^64.
                return 0;
            }
            long count = lead >>> dropped;
            long rest = lead - (count << dropped);
            long half = 1L << (dropped - 1);
            boolean up = rest > half || rest == half && (more || (count & 1) == 1);
            return up ? count + 1 : count;
        }
    }

    /** Holds the text's characters, and finds in them a NUMERAL and its parts. */
    private static final class Numeral {
        static final int NOT_A_NUMBER = 1;
        static final int INFINITY = 2;
        static final int DECIMAL = 3;
        static final int HEXADECIMAL = 4;

        // Far beyond what the text's length can bring back, and its tenfold is an int.
        private static final int MOST_POWER = 1000000;

        final char[] text;
        private int at;
        private int end;

        boolean minus;
        int form;
        /** The literal's digits, with the point among them, stand at from .. to - 1. */
        int from;
        int to;
        int power;

        Numeral() {
            text = new char[MOST_CHARACTERS];
        }

        boolean findIn(int filled) {
            trim(filled);
            minus = here() == '-';
            if (minus || here() == '+') {
                at++;
            }
            if (isRest("NaN")) {
                form = NOT_A_NUMBER;
                return true;
            }
            if (isRest("Infinity")) {
                form = INFINITY;
                return true;
            }
            return findLiteral();
        }

        private void trim(int filled) {
            at = 0;
            end = Math.min(filled, text.length);
            while (end > 0 && text[end - 1] <= ' ') {
                end--;
            }
            while (at < end && text[at] <= ' ') {
                at++;
            }
        }

        /** The character at hand; 0, which no text has, at the end. */
        private char here() {
            return at < end ? text[at] : 0;
        }

        private boolean isHere(char one, char other) {
            return here() == one || here() == other;
        }

        private boolean isRest(String word) {
            if (end - at != word.length()) {
                return false;
            }
            for (int i = 0; i < word.length(); i++) {
                if (text[at + i] != word.charAt(i)) {
                    return false;
                }
            }
            return true;
        }

        private boolean findLiteral() {
            form = skipPrefix() ? HEXADECIMAL : DECIMAL;
            if (!findDigits(form == HEXADECIMAL ? 16 : 10) || !findPower()) {
                return false;
            }
            if (isHere('f', 'F') || isHere('d', 'D')) {
                at++;
            }
            return at == end;
        }

        private boolean skipPrefix() {
            if (end - at < 2 || text[at] != '0' || text[at + 1] != 'x' && text[at + 1] != 'X') {
                return false;
            }
            at += 2;
            return true;
        }

        private boolean findDigits(int base) {
            from = at;
            int count = skipDigits(base);
            if (here() == '.') {
                at++;
                count += skipDigits(base);
            }
            to = at;
            return count > 0;
        }

        private int skipDigits(int base) {
            int start = at;
            while (at < end && digitOf(text[at]) < base) {
                at++;
            }
            return at - start;
        }

        private boolean findPower() {
            power = 0;
            boolean marked = form == HEXADECIMAL ? isHere('p', 'P') : isHere('e', 'E');
            if (!marked) {
                return form == DECIMAL;
            }
            at++;
            boolean negative = here() == '-';
            if (negative || here() == '+') {
                at++;
            }
            int start = at;
            while (at < end && digitOf(text[at]) < 10) {
                power = Math.min(power * 10 + digitOf(text[at]), MOST_POWER);
                at++;
            }
            if (negative) {
                power = -power;
            }
            return at > start;
        }
    }

    /** Turns a decimal literal's digits into a fraction. */
    private static final class Decimal {
        private static final int FULL_GROUP = 1000000000;

        final Fraction fraction;
        private int group;
        private int groupScale;
        private int kept;
        private int place;

        Decimal() {
            fraction = new Fraction();
        }

        long nearest(Numeral numeral, Kind kind) {
            gather(numeral, kind.mostDigits);
            int height = place + numeral.power;
            if (kept == 0 || height < kind.lowestPlace) {
                return 0;
            }
            if (height > kind.highestPlace) {
                return kind.infinite;
            }
            fraction.bottom.set(1);
            int tens = height - kept;
            if (tens < 0) {
                fraction.bottom.timesFives(-tens);
            } else {
                fraction.top.timesFives(tens);
            }
            // Of each ten the five is in the fraction now, and the two is left.
            return fraction.nearest(kind, tens);
        }

        /**
         * Puts the digits from the first that is not 0 into the fraction's top: kept of them, d1 d2 .., of a
         * number 0.d1d2.. * 10^place.
         */
        private void gather(Numeral numeral, int mostDigits) {
            char[] text = numeral.text;
            boolean behindPoint = false;
            boolean more = false;
            fraction.top.set(0);
            group = 0;
            groupScale = 1;
            kept = 0;
            place = 0;
            for (int i = numeral.from; i < numeral.to && i < text.length; i++) {
                char c = text[i];
                if (c == '.') {
                    behindPoint = true;
                } else if (kept == 0 && c == '0') {
                    place -= behindPoint ? 1 : 0;
                } else {
                    place += behindPoint ? 0 : 1;
                    if (kept < mostDigits) {
                        keepDigit(c - '0');
                    } else {
                        more = more || c != '0';
                    }
                }
            }
            if (more) {
                // No half way between two numbers has so many digits: any digit but 0 is as good as all the rest.
                keepDigit(1);
            }
            fraction.top.timesPlus(groupScale, group);
        }

        private void keepDigit(int digit) {
            group = group * 10 + digit;
            groupScale *= 10;
            kept++;
            if (groupScale == FULL_GROUP) {
                fraction.top.timesPlus(groupScale, group);
                group = 0;
                groupScale = 1;
            }
        }
    }

    /** Two whole numbers, one to be divided by the other. */
    private static final class Fraction {
        final Big top;
        final Big bottom;

        Fraction() {
            top = new Big();
            bottom = new Big();
        }

        /** The NEAREST number to top / bottom * 2^power, neither being 0; both are used up. */
        long nearest(Kind kind, int power) {
            int ahead = top.bitLength() - bottom.bitLength();
            if (ahead < 0) {
                top.shiftLeft(-ahead);
            } else {
                bottom.shiftLeft(ahead);
            }
            // The quotient is now between 1/2 and 2: its first bit may be 0, and one is needed for the half.
            int steps = kind.precision + 2;
            long lead = 0;
            for (int i = 0; i < steps; i++) {
                lead <<= 1;
                if (top.isAtLeast(bottom)) {
                    top.subtract(bottom);
                    lead |= 1;
                }
                top.timesPlus(2, 0);
            }
            return kind.nearest(lead, power + ahead - (steps - 1), !top.isZero());
        }
    }

    /** A whole number that is not below 0, of up to 3072 bits: the dearest, 771 decimal digits, has 2562. */
    private static final class Big {
        private static final int MOST_LIMBS = 96;
        private static final long LOW = 0xFFFFFFFFL;
        private static final int FIVES_AT_ONCE = 13;
        private static final int THIRTEEN_FIVES = 1220703125;

        /** 32 bits each, the lowest first; the highest in use is not 0, and those above it are not looked at. */
        private final int[] limbs;
        private int used;

        Big() {
            limbs = new int[MOST_LIMBS];
            used = 0;
        }

        void set(long unsigned) {
            limbs[0] = (int) unsigned;
            limbs[1] = (int) (unsigned >>> 32);
            used = 2;
            dropZeros();
        }

        boolean isZero() {
            return used == 0;
        }

        int bitLength() {
            return used == 0 ? 0 : used * 32 - 32 + bitLengthOf(limbs[used - 1] & LOW);
        }

        void timesPlus(int factor, int more) {
            long carry = more;
            for (int i = 0; i < used; i++) {
                carry += (limbs[i] & LOW) * factor;
                limbs[i] = (int) carry;
                carry >>>= 32;
            }
            if (carry != 0 && used < limbs.length) {
                limbs[used] = (int) carry;
                used++;
            }
        }

        void timesFives(int count) {
            int left = count;
            while (left >= FIVES_AT_ONCE) {
                timesPlus(THIRTEEN_FIVES, 0);
                left -= FIVES_AT_ONCE;
            }
            while (left > 0) {
                timesPlus(5, 0);
                left--;
            }
        }

        void shiftLeft(int count) {
            int whole = count >> 5;
            int part = count & 31;
            if (count <= 0 || used + whole >= limbs.length) {
                return;
            }
            for (int i = used; i >= 0; i--) {
                long high = i < used ? limbs[i] & LOW : 0;
                long low = i > 0 ? limbs[i - 1] & LOW : 0;
                limbs[i + whole] = (int) ((high << 32 | low) << part >>> 32);
            }
            for (int i = 0; i < whole; i++) {
                limbs[i] = 0;
            }
            used += whole + 1;
            dropZeros();
        }

        boolean isAtLeast(Big other) {
            if (used != other.used) {
                return used > other.used;
            }
            for (int i = used - 1; i >= 0; i--) {
                if (limbs[i] != other.limbs[i]) {
                    return (limbs[i] & LOW) > (other.limbs[i] & LOW);
                }
            }
            return true;
        }

        /** Takes away another that is not greater. */
        void subtract(Big other) {
            long borrow = 0;
            for (int i = 0; i < used; i++) {
                long taken = i < other.used ? other.limbs[i] & LOW : 0;
                long left = (limbs[i] & LOW) - taken - borrow;
                limbs[i] = (int) left;
                borrow = left >>> 63;
            }
            dropZeros();
        }

        private void dropZeros() {
            while (used > 0 && limbs[used - 1] == 0) {
                used--;
            }
        }
    }
}
