/** Promises 1 to 6: a new object, and what writes. */
public final class WritingTest {
    private static final Class<IllegalArgumentException> ARGUMENT = IllegalArgumentException.class;
    private static final Class<IndexOutOfBoundsException> FULL = IndexOutOfBoundsException.class;
    private static final long MIN = Long.MIN_VALUE;
    private static final long MAX = Long.MAX_VALUE;

    public static void main(String[] args) {
        aNewObject();
        put();
        putRange();
        putLength();
        putNumberWithoutSign();
        putNumberWithSign();
        putNumberSmall();
        fill();
        staleBits();
        aFullRow();
        Check.end();
    }

    private static void aNewObject() {
        PackedBits x = new PackedBits();
        Check.answers("new: bits", () -> x.count(0), 0);
        Check.answers("new: the PLACE", () -> x.count(1), 0);
        x.put(-1, 64);
        Check.answers("new: no row is shared", () -> new PackedBits().count(0), 0);
    }

    private static void put() {
        PackedBits x = new PackedBits();
        Check.answers("put(5, 3)", () -> x.put(5, 3), 3);
        Check.answers("put(-1, 0)", () -> x.put(-1, 0), 3);
        Check.answers("put(-2, 2)", () -> x.put(-2, 2), 5);
        Check.answers("put(MIN + 1, 64)", () -> x.put(MIN + 1, 64), 69);
        Check.answers("put(8, 3)", () -> x.put(8, 3), 72);
        Check.due("put: the highest first", Check.row(x), "10110" + "1" + "0".repeat(62) + "1" + "000");
        Check.answers("put: the PLACE stays", () -> x.count(1), 0);
        Check.refuses("put(0, -1)", x, ARGUMENT, () -> x.put(0, -1));
        Check.refuses("put(0, 65)", x, ARGUMENT, () -> x.put(0, 65));
        Check.refuses("put(0, MIN)", x, ARGUMENT, () -> x.put(0, Integer.MIN_VALUE));
        Check.refuses("put(0, MAX)", x, ARGUMENT, () -> x.put(0, Integer.MAX_VALUE));
    }

    private static void putRange() {
        range(5, 5, 5, "");
        range(0, 1, 0, "0");
        range(0, 1, 1, "1");
        range(0, 2, 2, "10");
        range(0, 3, 3, "11");
        range(0, 4, 3, "011");
        range(-3, 4, -3, "000");
        range(-3, 4, 4, "111");
        range(-3, 5, 5, "1000");
        range(1, 256, 256, "11111111");
        range(1, 257, 257, "100000000");
        range(MIN, MAX, MIN, "0".repeat(64));
        range(MIN, MAX, MAX, "1".repeat(64));
        range(MIN, MAX, -5, "0" + "1".repeat(60) + "011");
        range(0, MAX, MAX, "1".repeat(63));
        range(-1, MAX, MAX, "1" + "0".repeat(63));
        range(MAX, MAX, MAX, "");
        PackedBits x = Check.of("101");
        Check.refuses("putRange(5, 4, 5)", x, ARGUMENT, () -> x.putRange(5, 4, 5));
        Check.refuses("putRange(5, 4, 4)", x, ARGUMENT, () -> x.putRange(5, 4, 4));
        Check.refuses("putRange(0, 1, 2)", x, ARGUMENT, () -> x.putRange(0, 1, 2));
        Check.refuses("putRange(0, 1, -1)", x, ARGUMENT, () -> x.putRange(0, 1, -1));
        Check.refuses("putRange(MAX, MIN, 0)", x, ARGUMENT, () -> x.putRange(MAX, MIN, 0));
        Check.refuses("putRange(1, -1, 0): with sign", x, ARGUMENT, () -> x.putRange(1, -1, 0));
        Check.refuses("putRange(1, -1, 5): with sign", x, ARGUMENT, () -> x.putRange(1, -1, 5));
    }

    private static void range(long low, long high, long n, String bits) {
        String what = "putRange(" + low + ", " + high + ", " + n + ")";
        PackedBits x = Check.of("1");
        Check.answers(what, () -> x.putRange(low, high, n), 1 + bits.length());
        Check.due(what + " bits", Check.row(x), "1" + bits);
    }

    private static void putLength() {
        length(0, 0, "00000000");
        length(1, 1, "00000001");
        length(127, 127, "01111111");
        length(128, 128, "10" + "00000010000000");
        length(129, 129, "10" + "00000010000001");
        length(16383, 16383, "10" + "11111111111111");
        length(16384, 16384, "11" + "000001");
        length(16385, 16384, "11" + "000001");
        length(32767, 16384, "11" + "000001");
        length(32768, 32768, "11" + "000010");
        length(49152, 49152, "11" + "000011");
        length(65535, 49152, "11" + "000011");
        length(65536, 65536, "11" + "000100");
        length(81920, 65536, "11" + "000100");
        length(Integer.MAX_VALUE, 65536, "11" + "000100");
        PackedBits x = Check.of("101");
        Check.refuses("putLength(-1)", x, ARGUMENT, () -> x.putLength(-1));
        Check.refuses("putLength(MIN)", x, ARGUMENT, () -> x.putLength(Integer.MIN_VALUE));
    }

    private static void length(int n, int told, String bits) {
        PackedBits x = Check.of("1");
        Check.answers("putLength(" + n + ")", () -> x.putLength(n), told);
        Check.due("putLength(" + n + ") bits", Check.row(x), "1" + bits);
    }

    private static void putNumberWithoutSign() {
        number(0, 0, "00000001" + "00000000");
        number(0, 1, "00000001" + "00000001");
        number(0, 127, "00000001" + "01111111");
        number(0, 128, "00000001" + "10000000");
        number(0, 255, "00000001" + "11111111");
        number(0, 256, "00000010" + "00000001" + "00000000");
        number(0, 65535, "00000010" + "1".repeat(16));
        number(0, 65536, "00000011" + "00000001" + "0".repeat(16));
        number(0, MAX, "00001000" + "0" + "1".repeat(63));
        number(0, (1L << 56) - 1, "00000111" + "1".repeat(56));
        number(0, 1L << 56, "00001000" + "00000001" + "0".repeat(56));
        number(0, MIN, "00001000" + "1" + "0".repeat(63));
        number(0, -1, "00001000" + "1".repeat(64));
        PackedBits x = Check.of("101");
        Check.refuses("putNumber(-1, 0)", x, ARGUMENT, () -> x.putNumber(-1, 0));
        Check.refuses("putNumber(3, 0)", x, ARGUMENT, () -> x.putNumber(3, 0));
        Check.refuses("putNumber(MAX, 0)", x, ARGUMENT, () -> x.putNumber(Integer.MAX_VALUE, 0));
        Check.refuses("putNumber(MIN, 0)", x, ARGUMENT, () -> x.putNumber(Integer.MIN_VALUE, 0));
    }

    private static void putNumberWithSign() {
        number(1, 0, "00000001" + "00000000");
        number(1, 1, "00000001" + "00000001");
        number(1, -1, "00000001" + "11111111");
        number(1, 127, "00000001" + "01111111");
        number(1, 128, "00000010" + "00000000" + "10000000");
        number(1, -128, "00000001" + "10000000");
        number(1, -129, "00000010" + "11111111" + "01111111");
        number(1, 32767, "00000010" + "0" + "1".repeat(15));
        number(1, 32768, "00000011" + "00000000" + "1" + "0".repeat(15));
        number(1, -32768, "00000010" + "1" + "0".repeat(15));
        number(1, -32769, "00000011" + "11111111" + "0" + "1".repeat(15));
        number(1, (1L << 55) - 1, "00000111" + "0" + "1".repeat(55));
        number(1, 1L << 55, "00001000" + "00000000" + "1" + "0".repeat(55));
        number(1, -(1L << 55), "00000111" + "1" + "0".repeat(55));
        number(1, -(1L << 55) - 1, "00001000" + "11111111" + "0" + "1".repeat(55));
        number(1, MAX, "00001000" + "0" + "1".repeat(63));
        number(1, MIN, "00001000" + "1" + "0".repeat(63));
    }

    private static void putNumberSmall() {
        number(2, 0, "0" + "000000");
        number(2, 1, "0" + "000001");
        number(2, 63, "0" + "111111");
        number(2, 64, "1" + "00000001" + "01000000");
        number(2, 128, "1" + "00000001" + "10000000");
        number(2, 256, "1" + "00000010" + "00000001" + "00000000");
        number(2, -1, "1" + "00001000" + "1".repeat(64));
        number(2, MIN, "1" + "00001000" + "1" + "0".repeat(63));
    }

    private static void number(int kind, long n, String bits) {
        String what = "putNumber(" + kind + ", " + n + ")";
        PackedBits x = Check.of("1");
        Check.answers(what, () -> x.putNumber(kind, n), 1 + bits.length());
        Check.due(what + " bits", Check.row(x), "1" + bits);
    }

    private static void fill() {
        for (int n = 0; n <= 17; n++) {
            PackedBits x = Check.of("1".repeat(n));
            int want = n == 0 ? 8 : (n + 7) / 8 * 8;
            Check.answers("fill behind " + n, x::fill, want);
            Check.due("fill behind " + n + " bits", Check.row(x), "1".repeat(n) + "0".repeat(want - n));
            Check.answers("fill again behind " + n, x::fill, want);
        }
    }

    private static void staleBits() {
        PackedBits x = new PackedBits();
        x.put(-1, 64);
        x.put(-1, 64);
        x.cut(3);
        x.fill();
        x.put(0, 64);
        x.putLength(0);
        x.putNumber(0, 0);
        Check.due("bits 0 over what was cut", Check.row(x), "111" + "0".repeat(5 + 64 + 8 + 7) + "1" + "0".repeat(8));
    }

    // No 512 calls write 65536 bits (73 are the most for one call), so that this needs more of
    // them than the document promises anything for; the limit is kept all the same.
    private static void aFullRow() {
        PackedBits x = new PackedBits();
        for (int i = 0; i < 1023; i++) {
            x.put(-1, 64);
        }
        x.put(-1, 57);
        Check.answers("nearly full: bits", () -> x.count(0), 65529);
        Check.refuses("nearly full: put(0, 8)", x, FULL, () -> x.put(0, 8));
        Check.refuses("nearly full: putRange(0, 255, 0)", x, FULL, () -> x.putRange(0, 255, 0));
        Check.refuses("nearly full: putLength(0)", x, FULL, () -> x.putLength(0));
        Check.refuses("nearly full: putNumber(0, 0)", x, FULL, () -> x.putNumber(0, 0));
        Check.refuses("nearly full: putNumber(1, 0)", x, FULL, () -> x.putNumber(1, 0));
        Check.refuses("nearly full: putNumber(2, 64)", x, FULL, () -> x.putNumber(2, 64));
        Check.refuses("nearly full: put(0, 65)", x, ARGUMENT, () -> x.put(0, 65));
        Check.refuses("nearly full: putRange(0, 255, 256)", x, ARGUMENT, () -> x.putRange(0, 255, 256));
        Check.refuses("nearly full: putLength(-1)", x, ARGUMENT, () -> x.putLength(-1));
        Check.refuses("nearly full: putNumber(3, 0)", x, ARGUMENT, () -> x.putNumber(3, 0));
        Check.answers("nearly full: putNumber(2, 63)", () -> x.putNumber(2, 63), 65536);
        Check.refuses("full: putNumber(2, 0)", x, FULL, () -> x.putNumber(2, 0));
        Check.refuses("full: put(0, 1)", x, FULL, () -> x.put(0, 1));
        Check.answers("full: put(0, 0)", () -> x.put(0, 0), 65536);
        Check.answers("full: putRange(5, 5, 5)", () -> x.putRange(5, 5, 5), 65536);
        Check.answers("full: fill()", x::fill, 65536);
        x.cut(65536 - 7);
        Check.answers("nearly full: fill()", x::fill, 65536);
        x.cut(65536 - 16);
        Check.answers("16 left: putLength(128)", () -> x.putLength(128), 128);
        x.cut(65536 - 15);
        Check.refuses("15 left: putLength(128)", x, FULL, () -> x.putLength(128));
        Check.answers("15 left: putLength(16384)", () -> x.putLength(16384), 16384);
        x.cut(65536 - 16);
        Check.refuses("16 left: putNumber(2, 64)", x, FULL, () -> x.putNumber(2, 64));
        Check.answers("16 left: putNumber(1, -128)", () -> x.putNumber(1, -128), 65536);
    }
}
