/** Promises 7 to 10: what reads, strictly. */
public final class ReadingTest {
    private static final Class<IllegalArgumentException> ARGUMENT = IllegalArgumentException.class;
    private static final Class<UnsupportedOperationException> NOT_SO = UnsupportedOperationException.class;
    private static final long MIN = Long.MIN_VALUE;
    private static final long MAX = Long.MAX_VALUE;

    public static void main(String[] args) {
        take();
        takeRange();
        takeRangeRefused();
        takeLength();
        takeLengthRefused();
        takeNumber();
        takeNumberRefused();
        whatIsWrittenIsRead();
        Check.end();
    }

    private static void take() {
        PackedBits x = Check.of("101 0 11111111" + "1".repeat(63) + "0");
        Check.answers("take(3)", () -> x.take(3), 5);
        Check.answers("take(0)", () -> x.take(0), 0);
        Check.answers("take(1)", () -> x.take(1), 0);
        Check.answers("take(8): without sign", () -> x.take(8), 255);
        Check.answers("take: the PLACE", () -> x.count(1), 12);
        Check.refuses("take(-1)", x, ARGUMENT, () -> x.take(-1));
        Check.refuses("take(65)", x, ARGUMENT, () -> x.take(65));
        Check.answers("take(64)", () -> x.take(64), -2);
        Check.answers("take(0) at the end", () -> x.take(0), 0);
        Check.refuses("take(1) at the end", x, NOT_SO, () -> x.take(1));
        Check.refuses("take(65) at the end", x, ARGUMENT, () -> x.take(65));
        x.go(13);
        Check.refuses("take(64), 63 left", x, NOT_SO, () -> x.take(64));
        Check.answers("take: the bits stay", () -> x.count(0), 76);
    }

    private static void takeRange() {
        range("", 5, 5, 5);
        range("", MIN, MIN, MIN);
        range("0", 0, 1, 0);
        range("1", 0, 1, 1);
        range("10", 0, 2, 2);
        range("000", -3, 4, -3);
        range("111", -3, 4, 4);
        range("1000", -3, 5, 5);
        range("0".repeat(64), MIN, MAX, MIN);
        range("1".repeat(64), MIN, MAX, MAX);
        range("0" + "1".repeat(60) + "011", MIN, MAX, -5);
        range("1".repeat(63) + "0", MIN, MAX - 1, MAX - 1);
        range("1".repeat(63), 0, MAX, MAX);
        range("1" + "0".repeat(63), -1, MAX, MAX);
    }

    private static void range(String bits, long low, long high, long n) {
        String what = "takeRange(" + low + ", " + high + ") of " + bits;
        PackedBits x = Check.of("1" + bits + "1");
        x.go(1);
        Check.answers(what, () -> x.takeRange(low, high), n);
        Check.answers(what + ", the PLACE", () -> x.count(1), 1 + bits.length());
    }

    private static void takeRangeRefused() {
        rangeNotSo("", 0, 1);
        rangeNotSo("1", 0, 2);
        rangeNotSo("11", 0, 2);
        rangeNotSo("101", 0, 4);
        rangeNotSo("1001", -3, 5);
        rangeNotSo("1".repeat(64), MIN, MAX - 1);
        rangeNotSo("1".repeat(64), -1, MAX);
        rangeNotSo("1" + "0".repeat(62) + "1", -1, MAX);
        rangeNotSo("1".repeat(63), MIN, MAX);
        PackedBits x = Check.of("11");
        Check.refuses("takeRange(5, 4)", x, ARGUMENT, () -> x.takeRange(5, 4));
        Check.refuses("takeRange(MAX, MIN)", x, ARGUMENT, () -> x.takeRange(MAX, MIN));
        Check.refuses("takeRange(1, -1): with sign", x, ARGUMENT, () -> x.takeRange(1, -1));
        x.go(2);
        Check.refuses("takeRange(5, 4) at the end", x, ARGUMENT, () -> x.takeRange(5, 4));
    }

    private static void rangeNotSo(String bits, long low, long high) {
        PackedBits x = Check.of("1" + bits);
        x.go(1);
        Check.refuses("takeRange(" + low + ", " + high + ") of " + bits, x, NOT_SO, () -> x.takeRange(low, high));
    }

    private static void takeLength() {
        length("00000000", 0);
        length("00000001", 1);
        length("01111111", 127);
        length("10" + "00000010000000", 128);
        length("10" + "11111111111111", 16383);
        length("11" + "000001", 16384);
        length("11" + "000010", 32768);
        length("11" + "000011", 49152);
        length("11" + "000100", 65536);
    }

    private static void length(String bits, int n) {
        PackedBits x = Check.of("1" + bits + "1");
        x.go(1);
        Check.answers("takeLength of " + bits, x::takeLength, n);
        Check.answers("takeLength of " + bits + ", the PLACE", () -> x.count(1), 1 + bits.length());
    }

    private static void takeLengthRefused() {
        lengthNotSo("");
        lengthNotSo("0");
        lengthNotSo("0111111");
        lengthNotSo("1");
        lengthNotSo("10");
        lengthNotSo("10" + "1111111111111");
        lengthNotSo("10" + "00000000000000");
        lengthNotSo("10" + "00000001111111");
        lengthNotSo("11");
        lengthNotSo("11" + "00001");
        lengthNotSo("11" + "000000");
        lengthNotSo("11" + "000101");
        lengthNotSo("11" + "100001");
        lengthNotSo("11" + "111111");
    }

    private static void lengthNotSo(String bits) {
        PackedBits x = Check.of("1" + bits);
        x.go(1);
        Check.refuses("takeLength of " + bits, x, NOT_SO, x::takeLength);
    }

    private static void takeNumber() {
        number(0, "00000001" + "00000000", 0);
        number(0, "00000001" + "11111111", 255);
        number(0, "00000010" + "00000001" + "00000000", 256);
        number(0, "00001000" + "00000001" + "0".repeat(56), 1L << 56);
        number(0, "00001000" + "1".repeat(64), -1);
        number(1, "00000001" + "00000000", 0);
        number(1, "00000001" + "11111111", -1);
        number(1, "00000001" + "10000000", -128);
        number(1, "00000001" + "01111111", 127);
        number(1, "00000010" + "00000000" + "10000000", 128);
        number(1, "00000010" + "11111111" + "01111111", -129);
        number(1, "00001000" + "1" + "0".repeat(63), MIN);
        number(1, "00001000" + "0" + "1".repeat(63), MAX);
        number(2, "0" + "000000", 0);
        number(2, "0" + "111111", 63);
        number(2, "1" + "00000001" + "01000000", 64);
        number(2, "1" + "00000001" + "11111111", 255);
        number(2, "1" + "00001000" + "1".repeat(64), -1);
    }

    private static void number(int kind, String bits, long n) {
        String what = "takeNumber(" + kind + ") of " + bits;
        PackedBits x = Check.of("1" + bits + "1");
        x.go(1);
        Check.answers(what, () -> x.takeNumber(kind), n);
        Check.answers(what + ", the PLACE", () -> x.count(1), 1 + bits.length());
    }

    private static void takeNumberRefused() {
        for (int kind = 0; kind <= 1; kind++) {
            numberNotSo(kind, "");
            numberNotSo(kind, "0000000");
            numberNotSo(kind, "00000000" + "00000000");
            numberNotSo(kind, "00000001" + "1111111");
            numberNotSo(kind, "00000010" + "00000000" + "01111111");
            numberNotSo(kind, "00000010" + "00000000" + "00000000");
            numberNotSo(kind, "00001000" + "0".repeat(64));
            numberNotSo(kind, "00001000" + "01" + "1".repeat(61));
            numberNotSo(kind, "00001001" + "01" + "1".repeat(70));
            numberNotSo(kind, "00001001" + "00000000" + "1".repeat(64));
            numberNotSo(kind, "01111111" + "01".repeat(127 * 4));
            numberNotSo(kind, "10" + "00000010000000" + "01".repeat(128 * 4));
            numberNotSo(kind, "10" + "00000000000001" + "01111111");
            numberNotSo(kind, "11" + "000001" + "01".repeat(64));
        }
        numberNotSo(0, "00000010" + "00000000" + "11111111");
        numberNotSo(1, "00000010" + "11111111" + "10000000");
        numberNotSo(1, "00001000" + "1".repeat(64));
        smallRefused();
        PackedBits x = Check.of("00000001" + "00000001");
        Check.refuses("takeNumber(-1)", x, ARGUMENT, () -> x.takeNumber(-1));
        Check.refuses("takeNumber(3)", x, ARGUMENT, () -> x.takeNumber(3));
        x.go(16);
        Check.refuses("takeNumber(3) at the end", x, ARGUMENT, () -> x.takeNumber(3));
        Check.refuses("takeNumber(2) at the end", x, NOT_SO, () -> x.takeNumber(2));
    }

    private static void smallRefused() {
        numberNotSo(2, "");
        numberNotSo(2, "0");
        numberNotSo(2, "0" + "11111");
        numberNotSo(2, "1");
        numberNotSo(2, "1" + "00000000" + "01000000");
        numberNotSo(2, "1" + "00000001" + "0100000");
        numberNotSo(2, "1" + "00000001" + "00000000");
        numberNotSo(2, "1" + "00000001" + "00111111");
        numberNotSo(2, "1" + "00000010" + "00000000" + "01000000");
        numberNotSo(2, "1" + "00001001" + "1".repeat(72));
    }

    private static void numberNotSo(int kind, String bits) {
        PackedBits x = Check.of("1" + bits);
        x.go(1);
        Check.refuses("takeNumber(" + kind + ") of " + bits, x, NOT_SO, () -> x.takeNumber(kind));
    }

    private static void whatIsWrittenIsRead() {
        PackedBits x = new PackedBits();
        x.putRange(-10, 10, 7);
        x.putNumber(2, 63);
        x.putNumber(2, 64);
        x.putLength(300);
        x.putNumber(1, -70000);
        x.putNumber(0, 70000);
        x.put(9, 4);
        Check.answers("read back: takeRange(-10, 10)", () -> x.takeRange(-10, 10), 7);
        Check.answers("read back: takeNumber(2)", () -> x.takeNumber(2), 63);
        Check.answers("read back: takeNumber(2) again", () -> x.takeNumber(2), 64);
        Check.answers("read back: takeLength()", x::takeLength, 300);
        Check.answers("read back: takeNumber(1)", () -> x.takeNumber(1), -70000);
        Check.answers("read back: takeNumber(0)", () -> x.takeNumber(0), 70000);
        Check.answers("read back: take(4)", () -> x.take(4), 9);
        Check.answers("read back: all of it", () -> x.count(1), x.count(0));
    }
}
