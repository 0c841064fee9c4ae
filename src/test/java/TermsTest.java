import java.util.function.ToLongFunction;

/** The section "Terms": each sentence at its boundary, from both sides, written and read. */
public final class TermsTest {
    private static final Class<IllegalArgumentException> ARGUMENT = IllegalArgumentException.class;
    private static final Class<IndexOutOfBoundsException> FULL = IndexOutOfBoundsException.class;
    private static final Class<UnsupportedOperationException> NOT_SO = UnsupportedOperationException.class;
    private static final int MOST = 65536;

    public static void main(String[] args) {
        theFirstWrittenFirst();
        aFullRow();
        aFullRowIsReadAndTurned();
        whatTheCallsOfOneObjectWrite();
        thePlace();
        aFieldAsWideAsItsRange();
        lengthBelow128();
        lengthBelow16384();
        lengthInPieces();
        numberWithoutSign();
        numberWithSign();
        theFirstNineBits();
        smallBelow64();
        smallElse();
        argumentBeforeTooFew();
        argumentBeforeFull();
        Check.end();
    }

    private static void theFirstWrittenFirst() {
        Check.holds("Terms", "THE ROW has at most 65536 bits, the first written first.");
        PackedBits x = new PackedBits();
        x.put(1, 1);
        x.put(0, 2);
        x.put(3, 2);
        Check.due("the bits", Check.row(x), "10011");
        Check.answers("take(1)", () -> x.take(1), 1);
        Check.answers("take(4)", () -> x.take(4), 3);
    }

    private static void aFullRow() {
        Check.holds("Terms", "IndexOutOfBoundsException (writing): THE ROW would have more than 65536 bits.");
        lastThatFits("put(-1, 1)", 1, x -> x.put(-1, 1));
        lastThatFits("put(-1, 63)", 63, x -> x.put(-1, 63));
        lastThatFits("put(-1, 64)", 64, x -> x.put(-1, 64));
        lastThatFits("putRange(0, 1, 1)", 1, x -> x.putRange(0, 1, 1));
        lastThatFits("putRange(0, 128, 5)", 8, x -> x.putRange(0, 128, 5));
        lastThatFits("putRange(MIN, MAX, 5)", 64, x -> x.putRange(Long.MIN_VALUE, Long.MAX_VALUE, 5));
        lastThatFits("putLength(127)", 8, x -> x.putLength(127));
        lastThatFits("putLength(128)", 16, x -> x.putLength(128));
        lastThatFits("putLength(16383)", 16, x -> x.putLength(16383));
        lastThatFits("putLength(16384)", 8, x -> x.putLength(16384));
        lastThatFits("putLength(MAX)", 8, x -> x.putLength(Integer.MAX_VALUE));
        lastThatFits("putNumber(0, 0)", 16, x -> x.putNumber(0, 0));
        lastThatFits("putNumber(0, 256)", 24, x -> x.putNumber(0, 256));
        lastThatFits("putNumber(0, -1)", 72, x -> x.putNumber(0, -1));
        lastThatFits("putNumber(1, -128)", 16, x -> x.putNumber(1, -128));
        lastThatFits("putNumber(1, 128)", 24, x -> x.putNumber(1, 128));
        lastThatFits("putNumber(1, MIN)", 72, x -> x.putNumber(1, Long.MIN_VALUE));
        lastThatFits("putNumber(2, 63)", 7, x -> x.putNumber(2, 63));
        lastThatFits("putNumber(2, 64)", 17, x -> x.putNumber(2, 64));
        lastThatFits("putNumber(2, -1)", 73, x -> x.putNumber(2, -1));
    }

    /** It fits where exactly its width is left; with a bit less, and with none, it is refused. */
    private static void lastThatFits(String what, int width, ToLongFunction<PackedBits> call) {
        PackedBits alone = new PackedBits();
        long told = call.applyAsLong(alone);
        PackedBits x = Check.rowOf(MOST - width);
        String before = Check.row(x);
        boolean tellsLength = what.startsWith("putLength");
        Check.answers(what + ", " + width + " left", () -> call.applyAsLong(x), tellsLength ? told : MOST);
        Check.due(what + ", the full row", Check.row(x), before + Check.row(alone));
        Check.refuses(what + ", " + (width - 1) + " left", () -> Check.rowOf(MOST - width + 1), FULL, call);
        Check.refuses(what + ", none left", () -> Check.rowOf(MOST), FULL, call);
    }

    private static void aFullRowIsReadAndTurned() {
        Check.holds("Terms", "THE ROW has at most 65536 bits, the first written first.");
        PackedBits x = Check.rowOf(MOST);
        Check.answers("full, count(0)", () -> x.count(0), MOST);
        Check.answers("full, put(-1, 0)", () -> x.put(-1, 0), MOST);
        Check.answers("full, putRange(7, 7, 7)", () -> x.putRange(7, 7, 7), MOST);
        Check.answers("full, go(65536)", () -> x.go(MOST), 0);
        Check.refuses("full, go(65537)", x, ARGUMENT, () -> x.go(MOST + 1));
        Check.refuses("full, turn(65536)", x, ARGUMENT, () -> x.turn(MOST) ? 1 : 0);
        Check.refuses("full, cut(65537)", x, ARGUMENT, () -> x.cut(MOST + 1));
        Check.refuses("full and read, take(1)", x, NOT_SO, () -> x.take(1));
        Check.answers("full and read, take(0)", () -> x.take(0), 0);
        Check.answers("full, go(65535)", () -> x.go(MOST - 1), MOST);
        Check.answers("full, take(1)", () -> x.take(1), 1);
        Check.answers("full, turn(65535)", () -> x.turn(MOST - 1) ? 1 : 0, 0);
        Check.answers("full, cut(65536)", () -> x.cut(MOST), MOST);
        Check.answers("full, cut(65535)", () -> x.cut(MOST - 1), MOST);
        Check.answers("cut, put(1, 1)", () -> x.put(1, 1), MOST);
    }

    private static void whatTheCallsOfOneObjectWrite() {
        Check.holds("What it is", "An object is used for at most 512 calls after it has been made");
        PackedBits x = new PackedBits();
        for (int i = 1; i <= 256; i++) {
            int bits = 73 * i;
            Check.answers("call " + i + ", putNumber(2, -1)", () -> x.putNumber(2, -1), bits);
        }
        for (int i = 257; i <= 512; i++) {
            Check.answers("call " + i + ", takeNumber(2)", () -> x.takeNumber(2), -1);
        }
        PackedBits most = new PackedBits();
        for (int i = 1; i <= 512; i++) {
            int bits = 73 * i;
            Check.answers("call " + i + " of writing alone", () -> most.putNumber(2, -1), bits);
        }
    }

    private static void thePlace() {
        Check.holds("Terms", "It has a PLACE, up to which it was read, 0 at first.");
        PackedBits x = new PackedBits();
        Check.answers("new, count(1)", () -> x.count(1), 0);
        x.put(0xA5, 8);
        Check.answers("written, count(1)", () -> x.count(1), 0);
        x.take(3);
        Check.answers("take(3), count(1)", () -> x.count(1), 3);
        x.takeRange(0, 1);
        Check.answers("takeRange(0, 1), count(1)", () -> x.count(1), 4);
        x.take(4);
        Check.answers("all of it, count(1)", () -> x.count(1), 8);
        x.putLength(300);
        x.putNumber(2, 9);
        Check.answers("written again, count(1)", () -> x.count(1), 8);
        x.takeLength();
        Check.answers("takeLength(), count(1)", () -> x.count(1), 24);
        x.takeNumber(2);
        Check.answers("takeNumber(2), count(1)", () -> x.count(1), 31);
    }

    private static void aFieldAsWideAsItsRange() {
        Check.holds("Terms", "A field of r numbers: as few bits as can hold r - 1.");
        field(0, 0, 0);
        for (int w = 1; w <= 62; w++) {
            field(0, (1L << w) - 1, w);
            field(0, 1L << w, w + 1);
            field(-1, (1L << w) - 2, w);
            field(-1, (1L << w) - 1, w + 1);
            field(Long.MIN_VALUE, Long.MIN_VALUE + (1L << w) - 1, w);
            field(Long.MAX_VALUE - (1L << w), Long.MAX_VALUE, w + 1);
        }
        field(0, Long.MAX_VALUE, 63);
        field(-1, Long.MAX_VALUE, 64);
        field(Long.MIN_VALUE, -1, 63);
        field(Long.MIN_VALUE, 0, 64);
        field(Long.MIN_VALUE, Long.MAX_VALUE - 1, 64);
        field(Long.MIN_VALUE + 1, Long.MAX_VALUE, 64);
        field(Long.MIN_VALUE, Long.MAX_VALUE, 64);
    }

    /** The first and the last number of the range, each in a field of so many bits. */
    private static void field(long low, long high, int width) {
        String range = "(" + low + ", " + high;
        String last = Check.text(high - low, width);
        Check.writes("putRange" + range + ", low)", x -> x.putRange(low, high, low), "0".repeat(width));
        Check.writes("putRange" + range + ", high)", x -> x.putRange(low, high, high), last);
        Check.reads("takeRange" + range + ") of low", x -> x.takeRange(low, high), "0".repeat(width), low);
        Check.reads("takeRange" + range + ") of high", x -> x.takeRange(low, high), last, high);
        if (last.contains("0")) {
            String beyond = Check.text(high - low + 1, width);
            Check.notSo("takeRange" + range + ")", x -> x.takeRange(low, high), beyond);
            Check.notSo("takeRange" + range + ")", x -> x.takeRange(low, high), "1".repeat(width));
        }
    }

    private static void lengthBelow128() {
        Check.holds("Terms", "LENGTH n: below 128: a 0 and 7 bits");
        for (int n = 0; n < 128; n++) {
            length(n, n, "0" + Check.text(n, 7));
            Check.notSo("takeLength()", x -> x.takeLength(), "10" + Check.text(n, 14));
        }
        length(128, 128, "10" + "00000010000000");
    }

    private static void lengthBelow16384() {
        Check.holds("Terms", "below 16384: 10 and 14 bits");
        for (int n : new int[] {128, 129, 255, 256, 4095, 4096, 8191, 8192, 16382, 16383}) {
            length(n, n, "10" + Check.text(n, 14));
        }
        length(16384, 16384, "11" + "000001");
    }

    private static void lengthInPieces() {
        Check.holds("Terms", "else 11 and 6 bits k, 1 .. 4, for k 16384 (as great as fits).");
        for (int k = 1; k <= 4; k++) {
            String bits = "11" + Check.text(k, 6);
            length(k * 16384, k * 16384, bits);
            length(k * 16384 + 1, k * 16384, bits);
            length(k * 16384 + 16383, k * 16384, bits);
        }
        for (int n : new int[] {5 * 16384, 63 * 16384, 64 * 16384, 65 * 16384, Integer.MAX_VALUE}) {
            length(n, 65536, "11" + "000100");
        }
        Check.notSo("takeLength(), k 0", x -> x.takeLength(), "11" + "000000");
        for (int k = 5; k <= 63; k++) {
            Check.notSo("takeLength(), k " + k, x -> x.takeLength(), "11" + Check.text(k, 6));
        }
    }

    private static void length(int n, int told, String bits) {
        Check.writes("putLength(" + n + ")", x -> x.putLength(n), bits, told);
        Check.reads("takeLength() of " + told, x -> x.takeLength(), bits, told);
    }

    private static void numberWithoutSign() {
        Check.holds("Terms", "A number without sign: LENGTH in bytes, and it in as few bytes as can be (one for 0)");
        number(0, 0, 1);
        number(0, 1, 1);
        for (int bytes = 1; bytes <= 7; bytes++) {
            number(0, (1L << 8 * bytes) - 1, bytes);
            number(0, 1L << 8 * bytes, bytes + 1);
        }
        for (int bytes = 2; bytes <= 8; bytes++) {
            String length = Check.text(bytes, 8);
            Check.notSo("takeNumber(0)", x -> x.takeNumber(0), length + "00000000" + "1".repeat(8 * bytes - 8));
            Check.notSo("takeNumber(0)", x -> x.takeNumber(0), length + "0".repeat(8 * bytes));
        }
        number(0, Integer.MAX_VALUE, 4);
        number(0, Integer.MAX_VALUE + 1L, 4);
        number(0, Integer.MIN_VALUE, 8);
        number(0, Long.MAX_VALUE, 8);
        number(0, Long.MIN_VALUE, 8);
        number(0, -2, 8);
        number(0, -1, 8);
        Check.notSo("takeNumber(0) of no bytes", x -> x.takeNumber(0), "00000000");
    }

    private static void numberWithSign() {
        Check.holds("Terms", "with sign likewise, as two's complement (the first nine bits are not alike).");
        number(1, 0, 1);
        number(1, 1, 1);
        number(1, -1, 1);
        for (int bytes = 1; bytes <= 7; bytes++) {
            long beyond = 1L << 8 * bytes - 1;
            number(1, beyond - 1, bytes);
            number(1, beyond, bytes + 1);
            number(1, -beyond, bytes);
            number(1, -beyond - 1, bytes + 1);
        }
        number(1, Integer.MAX_VALUE, 4);
        number(1, Integer.MAX_VALUE + 1L, 5);
        number(1, Integer.MIN_VALUE, 4);
        number(1, Integer.MIN_VALUE - 1L, 5);
        number(1, Long.MAX_VALUE, 8);
        number(1, Long.MIN_VALUE, 8);
        Check.notSo("takeNumber(1) of no bytes", x -> x.takeNumber(1), "00000000");
    }

    private static void number(int kind, long n, int bytes) {
        String bits = Check.text(bytes, 8) + Check.text(n, 8 * bytes);
        Check.writes("putNumber(" + kind + ", " + n + ")", x -> x.putNumber(kind, n), bits);
        Check.reads("takeNumber(" + kind + ") of " + n, x -> x.takeNumber(kind), bits, n);
    }

    private static void theFirstNineBits() {
        Check.holds("Terms", "(the first nine bits are not alike)");
        for (int bytes = 2; bytes <= 8; bytes++) {
            String length = Check.text(bytes, 8);
            for (String rest : new String[] {"0".repeat(8 * bytes - 9), "1".repeat(8 * bytes - 9)}) {
                Check.notSo("takeNumber(1)", x -> x.takeNumber(1), length + "000000000" + rest);
                Check.notSo("takeNumber(1)", x -> x.takeNumber(1), length + "111111111" + rest);
                long above = 1L << 8 * bytes - 9 | Long.parseLong("0" + rest, 2);
                long below = -1L << 8 * bytes - 8 | Long.parseLong("0" + rest, 2);
                Check.reads("takeNumber(1)", x -> x.takeNumber(1), length + "000000001" + rest, above);
                Check.reads("takeNumber(1)", x -> x.takeNumber(1), length + "111111110" + rest, below);
            }
        }
        Check.reads("takeNumber(1) of one byte alike", x -> x.takeNumber(1), "00000001" + "00000000", 0);
        Check.reads("takeNumber(1) of one byte alike", x -> x.takeNumber(1), "00000001" + "11111111", -1);
    }

    private static void smallBelow64() {
        Check.holds("Terms", "SMALL n: below 64 a 0 and 6 bits");
        for (int i = 0; i < 64; i++) {
            int n = i;
            Check.writes("putNumber(2, " + n + ")", x -> x.putNumber(2, n), "0" + Check.text(n, 6));
            Check.reads("takeNumber(2)", x -> x.takeNumber(2), "0" + Check.text(n, 6), n);
        }
    }

    private static void smallElse() {
        Check.holds("Terms", "else a 1 and the number without sign.");
        small(64, 1);
        small(65, 1);
        small(255, 1);
        small(256, 2);
        small(Integer.MAX_VALUE, 4);
        small(Integer.MIN_VALUE, 8);
        small(Long.MAX_VALUE, 8);
        small(Long.MIN_VALUE, 8);
        small(-64, 8);
        small(-1, 8);
        Check.notSo("takeNumber(2), a byte too many", x -> x.takeNumber(2), "1" + "00000010" + "00000000" + "01000000");
        Check.notSo("takeNumber(2), no bytes", x -> x.takeNumber(2), "1" + "00000000");
    }

    private static void small(long n, int bytes) {
        String bits = "1" + Check.text(bytes, 8) + Check.text(n, 8 * bytes);
        Check.writes("putNumber(2, " + n + ")", x -> x.putNumber(2, n), bits);
        Check.reads("takeNumber(2) of " + n, x -> x.takeNumber(2), bits, n);
    }

    private static void argumentBeforeTooFew() {
        Check.holds("Terms", "What is thrown, in this order: IllegalArgumentException: a number out of range; "
                + "UnsupportedOperationException (reading)");
        for (String bits : new String[] {"", "1", "11111111", "11111111" + Check.MORE}) {
            String behind = ", " + bits.length() + " bits left";
            Check.refuses("take(-1)" + behind, () -> Check.at1(bits), ARGUMENT, x -> x.take(-1));
            Check.refuses("take(65)" + behind, () -> Check.at1(bits), ARGUMENT, x -> x.take(65));
            Check.refuses("takeRange(1, 0)" + behind, () -> Check.at1(bits), ARGUMENT, x -> x.takeRange(1, 0));
            Check.refuses("takeNumber(-1)" + behind, () -> Check.at1(bits), ARGUMENT, x -> x.takeNumber(-1));
            Check.refuses("takeNumber(3)" + behind, () -> Check.at1(bits), ARGUMENT, x -> x.takeNumber(3));
        }
    }

    private static void argumentBeforeFull() {
        Check.holds("Terms", "What is thrown, in this order: IllegalArgumentException: a number out of range; "
                + "... IndexOutOfBoundsException (writing)");
        for (int i = MOST - 1; i <= MOST; i++) {
            int bits = i;
            String behind = ", " + bits + " bits";
            Check.refuses("put(0, -1)" + behind, () -> Check.rowOf(bits), ARGUMENT, x -> x.put(0, -1));
            Check.refuses("put(0, 65)" + behind, () -> Check.rowOf(bits), ARGUMENT, x -> x.put(0, 65));
            Check.refuses("putRange(0, 9, 10)" + behind, () -> Check.rowOf(bits), ARGUMENT, x -> x.putRange(0, 9, 10));
            Check.refuses("putRange(9, 0, 5)" + behind, () -> Check.rowOf(bits), ARGUMENT, x -> x.putRange(9, 0, 5));
            Check.refuses("putLength(-1)" + behind, () -> Check.rowOf(bits), ARGUMENT, x -> x.putLength(-1));
            Check.refuses("putNumber(-1, 0)" + behind, () -> Check.rowOf(bits), ARGUMENT, x -> x.putNumber(-1, 0));
            Check.refuses("putNumber(3, 0)" + behind, () -> Check.rowOf(bits), ARGUMENT, x -> x.putNumber(3, 0));
        }
    }
}
