import java.util.List;
import java.util.function.ToLongFunction;

/** The section "What it is": what its first sentence says of the whole, clause by clause. */
public final class AboutTest {
    private static final long MIN = Long.MIN_VALUE;
    private static final long MAX = Long.MAX_VALUE;

    /** A call that writes, what it writes, the call that reads it, and the number that went through both. */
    private record Form(ToLongFunction<PackedBits> put, String bits, ToLongFunction<PackedBits> take, long n) {
    }

    private static final List<Form> FORMS = List.of(
            new Form(x -> x.put(5, 3), "101", x -> x.take(3), 5),
            new Form(x -> x.putRange(-10, 10, 7), "10001", x -> x.takeRange(-10, 10), 7),
            new Form(x -> x.putNumber(2, 63), "0" + "111111", x -> x.takeNumber(2), 63),
            new Form(x -> x.putRange(7, 7, 7), "", x -> x.takeRange(7, 7), 7),
            new Form(x -> x.putNumber(1, -129), "00000010" + "1111111101111111", x -> x.takeNumber(1), -129),
            new Form(x -> x.put(0, 0), "", x -> x.take(0), 0),
            new Form(x -> x.putLength(5), "0" + "0000101", x -> x.takeLength(), 5),
            new Form(x -> x.putLength(300), "10" + "00000100101100", x -> x.takeLength(), 300),
            new Form(x -> x.putLength(40000), "11" + "000010", x -> x.takeLength(), 32768),
            new Form(x -> x.putNumber(0, 65535), "00000010" + "1".repeat(16), x -> x.takeNumber(0), 65535),
            new Form(x -> x.putNumber(2, 64), "1" + "00000001" + "01000000", x -> x.takeNumber(2), 64),
            new Form(x -> x.putRange(MIN, MAX, MIN), "0".repeat(64), x -> x.takeRange(MIN, MAX), MIN),
            new Form(x -> x.putNumber(0, -1), "00001000" + "1".repeat(64), x -> x.takeNumber(0), -1));

    public static void main(String[] args) {
        withoutGaps();
        fieldsAsWideAsTheirRange();
        numbersBehindTheirLength();
        lengthsInPieces();
        smallNumbersInSevenBits();
        Check.end();
    }

    /** Behind any number of bits, so that no form waits for a byte or a word to begin. */
    private static void withoutGaps() {
        Check.holds("What it is", "Numbers packed into bits without gaps, as the unaligned packed rules have them");
        for (int head = 0; head <= 130; head++) {
            String before = "1".repeat(head);
            PackedBits x = Check.of(before);
            StringBuilder bits = new StringBuilder(before);
            for (Form form : FORMS) {
                form.put().applyAsLong(x);
                bits.append(form.bits());
            }
            Check.due("all forms behind " + head + " bits", Check.row(x), bits.toString());
            x.go(head);
            for (Form form : FORMS) {
                Check.answers("read behind " + head + " bits", () -> form.take().applyAsLong(x), form.n());
            }
            Check.answers("all read behind " + head + " bits", () -> x.count(1), bits.length());
        }
    }

    private static void fieldsAsWideAsTheirRange() {
        Check.holds("What it is", "fields that are as wide as their range");
        int width = 0;
        for (int numbers = 1; numbers <= 2000; numbers++) {
            width += 1 << width < numbers ? 1 : 0;
            for (long low : new long[] {MIN, -1000, 0, 1, MAX - numbers + 1}) {
                long high = low + numbers - 1;
                String range = "Range(" + low + ", " + high;
                PackedBits x = new PackedBits();
                Check.answers("put" + range + ", high)", () -> x.putRange(low, high, high), width);
                Check.answers("take" + range + ")", () -> x.takeRange(low, high), high);
                Check.answers("take" + range + "), the PLACE", () -> x.count(1), width);
            }
        }
    }

    /** The length is read as one, and so many bytes behind it, which are the whole number. */
    private static void numbersBehindTheirLength() {
        Check.holds("What it is", "numbers in as few bytes as can be behind their length");
        for (long n = 0; n <= 66000; n++) {
            behindItsLength(0, n, n < 256 ? 1 : n < 65536 ? 2 : 3);
        }
        for (long n = -33000; n <= 33000; n++) {
            boolean one = n >= -128 && n < 128;
            boolean two = n >= -32768 && n < 32768;
            behindItsLength(1, n, one ? 1 : two ? 2 : 3);
        }
    }

    private static void behindItsLength(int kind, long n, int bytes) {
        String what = "putNumber(" + kind + ", " + n + "), ";
        int bits = 8 * bytes;
        PackedBits x = new PackedBits();
        x.putNumber(kind, n);
        Check.answers(what + "takeLength()", () -> x.takeLength(), bytes);
        Check.answers(what + "the bytes", () -> x.take(bits), n & (1L << bits) - 1);
        Check.answers(what + "nothing more", () -> x.count(0) - x.count(1), 0);
    }

    /** A long length is told piece by piece, each as great as fits, and ends with one that is no piece. */
    private static void lengthsInPieces() {
        Check.holds("What it is", "lengths in pieces");
        pieces(16384, "11000001" + "00000000");
        pieces(16385, "11000001" + "00000001");
        pieces(3 * 16384 + 300, "11000011" + "10" + "00000100101100");
        pieces(65536, "11000100" + "00000000");
        pieces(65536 + 16384, "11000100" + "11000001" + "00000000");
        pieces(150000, "11000100".repeat(2) + "11000001" + "10" + "00100111110000");
    }

    private static void pieces(int n, String bits) {
        PackedBits x = new PackedBits();
        int left = n;
        int told = 16384;
        for (int i = 0; i < 9 && told >= 16384; i++) {
            told = x.putLength(left);
            left -= told;
        }
        Check.due(n + " in pieces, what is left", left, 0);
        Check.due(n + " in pieces", Check.row(x), bits);
        int all = 0;
        told = 16384;
        for (int i = 0; i < 9 && told >= 16384; i++) {
            told = x.takeLength();
            all += told;
        }
        Check.due(n + " in pieces, read", all, n);
    }

    private static void smallNumbersInSevenBits() {
        Check.holds("What it is", "and small numbers in seven bits");
        PackedBits x = new PackedBits();
        for (int i = 0; i < 64; i++) {
            int n = i;
            Check.answers("putNumber(2, " + n + ")", () -> x.putNumber(2, n), 7 * (n + 1));
        }
        for (int i = 0; i < 64; i++) {
            int n = i;
            Check.answers("putNumber(2, " + n + "), take(7)", () -> x.take(7), n);
        }
        Check.answers("putNumber(2, 64) is not small", () -> x.putNumber(2, 64), 7 * 64 + 17);
    }
}
