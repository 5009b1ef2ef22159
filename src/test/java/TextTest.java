/** Promises 1 to 4: a new object, write, keep, length. */
public final class TextTest {
    public static void main(String[] args) {
        newObject();
        writing();
        fullText();
        lastPlaces();
        keeping();
        charactersStay();
        Due.end();
    }

    private static void newObject() {
        NearestReader x = new NearestReader();
        Due.due("new: length()", x.length(), 0);
        Due.due("new: bits()", x.bits(), 0);
        Due.due("new: readings()", x.readings(), 0);
        Due.due("new: wide()", x.wide(), false);
        Due.due("new: narrow()", x.narrow(), false);
        Due.due("new: keep(0)", x.keep(0), false);
        Due.due("new: bits() after readings", x.bits(), 0);
        Due.due("new: readings() after readings", x.readings(), 0);
    }

    private static void writing() {
        NearestReader x = new NearestReader();
        Due.due("write(0)", x.write(0), true);
        Due.due("length() after write(0)", x.length(), 0);
        // The highest byte comes first, and zeros between bytes are left out: "1" "2" "." "5".
        Due.due("write(12.5)", x.write(0x3100320000002E35L), true);
        Due.due("length() of 12.5", x.length(), 4);
        Due.due("wide() of 12.5", x.wide(), true);
        Due.due("bits() of 12.5", x.bits(), Double.doubleToRawLongBits(12.5));
        Due.due("write(e2)", x.write(0x6500000000003200L), true);
        Due.due("length() of 12.5e2", x.length(), 6);
        Due.due("wide() of 12.5e2", x.wide(), true);
        Due.due("bits() of 12.5e2", x.bits(), Double.doubleToRawLongBits(1250));
        Due.due("write(-1)", x.write(-1L), true);
        Due.due("length() with eight of 255", x.length(), 14);
        Due.due("wide() with 255", x.wide(), false);
        Due.due("keep(6)", x.keep(6), true);
        Due.due("wide() without 255", x.wide(), true);
        Due.due("write of the sign bit's byte", x.write(0x8000000000000000L), true);
        Due.due("length() with 128", x.length(), 7);
    }

    private static void fullText() {
        NearestReader x = new NearestReader();
        for (int i = 0; i < 300; i++) {
            Due.due("write " + i, x.write(0x3131313131313131L), true);
        }
        Due.due("length() full", x.length(), 2400);
        Due.due("write(1) full", x.write('1'), false);
        Due.due("write(eight) full", x.write(0x3131313131313131L), false);
        Due.due("write(0) full", x.write(0), true);
        Due.due("length() still full", x.length(), 2400);
        Due.due("keep(2400) full", x.keep(2400), false);
        Due.due("wide() full", x.wide(), true);
        Due.due("bits() full", x.bits(), 2047L << 52);
        Due.due("keep(2399)", x.keep(2399), true);
        Due.due("write(two) at 2399", x.write(0x3131), false);
        Due.due("length() after refusal", x.length(), 2399);
        Due.due("write(one) at 2399", x.write(0x3100), true);
        Due.due("length() full again", x.length(), 2400);
    }

    private static void lastPlaces() {
        for (int room = 0; room <= 9; room++) {
            for (int count = 0; count <= 8; count++) {
                NearestReader x = new NearestReader();
                for (int i = 0; i < 300; i++) {
                    x.write(0x2020202020202020L);
                }
                Due.due("keep(" + (2400 - room) + ")", x.keep(2400 - room), room > 0);
                long eight = count == 0 ? 0 : 0x3939393939393939L >>> 64 - 8 * count;
                Due.due("write of " + count + " in room for " + room, x.write(eight), count <= room);
                Due.due("length() then", x.length(), 2400 - room + (count <= room ? count : 0));
                // A refused write leaves the blanks alone.
                Due.due("wide() then", x.wide(), count > 0 && count <= room);
            }
        }
    }

    private static void keeping() {
        NearestReader x = Due.holding("3.25e1");
        Due.due("keep(-1)", x.keep(-1), false);
        Due.due("keep(least)", x.keep(Integer.MIN_VALUE), false);
        Due.due("keep(most)", x.keep(Integer.MAX_VALUE), false);
        Due.due("keep(7) of 6", x.keep(7), false);
        Due.due("keep(6) of 6", x.keep(6), false);
        Due.due("length() after refusals", x.length(), 6);
        Due.due("keep(5) of 6", x.keep(5), true);
        Due.due("length() kept", x.length(), 5);
        Due.due("wide() of 3.25e", x.wide(), false);
        Due.due("keep(4)", x.keep(4), true);
        Due.due("wide() of 3.25", x.wide(), true);
        Due.due("bits() of 3.25", x.bits(), Double.doubleToRawLongBits(3.25));
        Due.due("keep(0)", x.keep(0), true);
        Due.due("length() of nothing", x.length(), 0);
        Due.due("keep(0) again", x.keep(0), false);
        Due.due("bits() stay", x.bits(), Double.doubleToRawLongBits(3.25));
    }

    private static void charactersStay() {
        NearestReader x = Due.holding("123456789");
        x.keep(3);
        Due.due("write(7)", x.write('7'), true);
        Due.due("length() of 1237", x.length(), 4);
        Due.due("wide() of 1237", x.wide(), true);
        Due.due("bits() of 1237", x.bits(), Double.doubleToRawLongBits(1237));
        Due.due("narrow() of 1237", x.narrow(), true);
        Due.due("bits() of narrow 1237", x.bits(), Float.floatToRawIntBits(1237f));
        Due.due("length() after readings", x.length(), 4);
    }
}
