import java.util.function.Supplier;

/** Promises 1 to 6, sentence by sentence at their boundaries. */
public final class WritingEdgesTest {
    private static final Class<IllegalArgumentException> ARGUMENT = IllegalArgumentException.class;
    private static final Class<UnsupportedOperationException> NOT_SO = UnsupportedOperationException.class;
    private static final long MIN = Long.MIN_VALUE;
    private static final long MAX = Long.MAX_VALUE;
    private static final long[] ENDS = {
        MIN, MIN + 1, Integer.MIN_VALUE - 1L, Integer.MIN_VALUE, Integer.MIN_VALUE + 1L, -1, 0, 1,
        Integer.MAX_VALUE - 1L, Integer.MAX_VALUE, Integer.MAX_VALUE + 1L, (1L << 32) - 1, 1L << 32, MAX - 1, MAX,
    };

    public static void main(String[] args) {
        theRowIsEmpty();
        putSoManyBits();
        putTheLowestBits();
        putAnswers();
        putRangeOneOfThem();
        putRangeWithSign();
        putRangeLowAboveHigh();
        putRangeLessLow();
        allThatWriteAnswer();
        putLengthOutOfRange();
        putLengthThePiece();
        putNumberKinds();
        putNumberAll64Bits();
        putNumberWithSign();
        putNumberSmall();
        fillUpToEights();
        fillEightAtLeast();
        fillNone();
        fillToTheFullRow();
        Check.end();
    }

    private static void theRowIsEmpty() {
        Check.holds("Promise 1", "THE ROW is empty.");
        PackedBits x = new PackedBits();
        Check.answers("count(0)", () -> x.count(0), 0);
        Check.answers("count(1)", () -> x.count(1), 0);
        Check.answers("take(0)", () -> x.take(0), 0);
        Check.answers("takeRange(-7, -7)", () -> x.takeRange(-7, -7), -7);
        Check.answers("go(0)", () -> x.go(0), 0);
        Check.answers("cut(0)", () -> x.cut(0), 0);
        Check.answers("put(-1, 0)", () -> x.put(-1, 0), 0);
        Check.answers("putRange(MIN, MIN, MIN)", () -> x.putRange(MIN, MIN, MIN), 0);
        Supplier<PackedBits> empty = PackedBits::new;
        Check.refuses("take(1)", empty, NOT_SO, e -> e.take(1));
        Check.refuses("takeRange(0, 1)", empty, NOT_SO, e -> e.takeRange(0, 1));
        Check.refuses("takeLength()", empty, NOT_SO, e -> e.takeLength());
        Check.refuses("takeNumber(0)", empty, NOT_SO, e -> e.takeNumber(0));
        Check.refuses("takeNumber(1)", empty, NOT_SO, e -> e.takeNumber(1));
        Check.refuses("takeNumber(2)", empty, NOT_SO, e -> e.takeNumber(2));
        Check.refuses("go(1)", empty, ARGUMENT, e -> e.go(1));
        Check.refuses("go(-1)", empty, ARGUMENT, e -> e.go(-1));
        Check.refuses("turn(0)", empty, ARGUMENT, e -> e.turn(0) ? 1 : 0);
        Check.refuses("cut(1)", empty, ARGUMENT, e -> e.cut(1));
        Check.refuses("cut(-1)", empty, ARGUMENT, e -> e.cut(-1));
    }

    private static void putSoManyBits() {
        Check.holds("Promise 2", "n 0 .. 64.");
        Check.writes("put(-1, 0)", x -> x.put(-1, 0), "");
        Check.writes("put(-1, 1)", x -> x.put(-1, 1), "1");
        Check.writes("put(-1, 63)", x -> x.put(-1, 63), "1".repeat(63));
        Check.writes("put(-1, 64)", x -> x.put(-1, 64), "1".repeat(64));
        for (int n : new int[] {Integer.MIN_VALUE, -64, -1, 65, 128, Integer.MAX_VALUE}) {
            putRefused(n);
        }
    }

    private static void putRefused(int n) {
        for (long x : new long[] {0, -1}) {
            String what = "put(" + x + ", " + n + ")";
            Check.refuses(what, PackedBits::new, ARGUMENT, e -> e.put(x, n));
            Check.refuses(what, WritingEdgesTest::halfRead, ARGUMENT, e -> e.put(x, n));
        }
    }

    private static PackedBits halfRead() {
        PackedBits x = Check.of("10110 00000001 10010110 0101");
        x.go(5);
        return x;
    }

    private static void putTheLowestBits() {
        Check.holds("Promise 2", "The lowest n bits of x, the highest first.");
        for (int i = 0; i <= 64; i++) {
            int n = i;
            for (long x : ENDS) {
                String lowest = Check.text(x, 64).substring(64 - n);
                Check.writes("put(" + x + ", " + n + ")", e -> e.put(x, n), lowest);
            }
        }
        Check.writes("put(6, 3)", x -> x.put(6, 3), "110");
        Check.writes("put(6, 2)", x -> x.put(6, 2), "10");
        Check.writes("put(-8, 3)", x -> x.put(-8, 3), "000");
    }

    private static void putAnswers() {
        Check.holds("Promise 2", "Answers how many bits THE ROW has.");
        PackedBits x = new PackedBits();
        int bits = 0;
        for (int i = 0; i <= 64; i++) {
            int n = i;
            bits += n;
            Check.answers("put(0, " + n + ")", () -> x.put(0, n), bits);
        }
        Check.answers("count(0)", () -> x.count(0), 2080);
    }

    private static void putRangeOneOfThem() {
        Check.holds("Promise 3", "low .. high, as numbers with sign, n one of them (else IllegalArgumentException)");
        long[][] ranges = {{0, 0}, {0, 1}, {-5, 9}, {-9, -5}, {MIN + 1, MIN + 1}, {MAX - 1, MAX - 1}, {MIN + 1, MAX - 1},
            {Integer.MIN_VALUE, Integer.MAX_VALUE}, {-1, 1L << 40}};
        for (long[] range : ranges) {
            rangeEnds(range[0], range[1]);
            rangeRefused(range[0], range[1], range[0] - 1);
            rangeRefused(range[0], range[1], range[1] + 1);
            rangeRefused(range[0], range[1], MIN);
            rangeRefused(range[0], range[1], MAX);
        }
        rangeEnds(MIN, MIN);
        rangeRefused(MIN, MIN, MIN + 1);
        rangeRefused(MIN, MIN, MAX);
        rangeEnds(MAX, MAX);
        rangeRefused(MAX, MAX, MAX - 1);
        rangeRefused(MAX, MAX, MIN);
        rangeEnds(MIN, MAX);
    }

    private static void rangeEnds(long low, long high) {
        int width = 64 - Long.numberOfLeadingZeros(high - low);
        String range = "putRange(" + low + ", " + high;
        Check.writes(range + ", low)", x -> x.putRange(low, high, low), "0".repeat(width));
        Check.writes(range + ", high)", x -> x.putRange(low, high, high), Check.text(high - low, width));
    }

    private static void rangeRefused(long low, long high, long n) {
        String what = "putRange(" + low + ", " + high + ", " + n + ")";
        Check.refuses(what, PackedBits::new, ARGUMENT, x -> x.putRange(low, high, n));
        Check.refuses(what, WritingEdgesTest::halfRead, ARGUMENT, x -> x.putRange(low, high, n));
    }

    private static void putRangeWithSign() {
        Check.holds("Promise 3", "low .. high, as numbers with sign");
        Check.writes("putRange(-1, 1, 0)", x -> x.putRange(-1, 1, 0), "01");
        Check.writes("putRange(-1, 0, -1)", x -> x.putRange(-1, 0, -1), "0");
        Check.writes("putRange(MIN, MIN + 1, MIN + 1)", x -> x.putRange(MIN, MIN + 1, MIN + 1), "1");
        rangeRefused(0, -1, -1);
        rangeRefused(0, -1, 0);
        rangeRefused(1, -1, 5);
        rangeRefused(MAX, MIN, MAX);
        rangeRefused(MAX, MIN, MIN);
    }

    private static void putRangeLowAboveHigh() {
        Check.holds("Promise 3", "n one of them (else IllegalArgumentException)");
        for (long n : new long[] {MIN, -1, 2, 3, 4, 5, MAX}) {
            rangeRefused(4, 3, n);
        }
        rangeRefused(MIN + 1, MIN, MIN);
        rangeRefused(MIN + 1, MIN, MIN + 1);
        rangeRefused(MAX, MAX - 1, MAX);
        rangeRefused(MAX, MAX - 1, MAX - 1);
    }

    private static void putRangeLessLow() {
        Check.holds("Promise 3", "n less low in a field of so many.");
        for (long n = -3; n <= 5; n++) {
            long mine = n;
            Check.writes("putRange(-3, 5, " + n + ")", x -> x.putRange(-3, 5, mine), Check.text(n + 3, 4));
        }
        Check.writes("putRange(MIN, MAX, -1)", x -> x.putRange(MIN, MAX, -1), "0" + "1".repeat(63));
        Check.writes("putRange(MIN, MAX, 0)", x -> x.putRange(MIN, MAX, 0), "1" + "0".repeat(63));
        Check.writes("putRange(MIN, 0, -1)", x -> x.putRange(MIN, 0, -1), "0" + "1".repeat(63));
        Check.writes("putRange(-1, MAX, MAX - 1)", x -> x.putRange(-1, MAX, MAX - 1), "0" + "1".repeat(63));
        Check.writes("putRange(-2, MAX, MAX)", x -> x.putRange(-2, MAX, MAX), "1" + "0".repeat(62) + "1");
        Check.writes("putRange(1, MAX, MAX)", x -> x.putRange(1, MAX, MAX), "1".repeat(62) + "0");
        Check.writes("putRange(MIN, -2, -2)", x -> x.putRange(MIN, -2, -2), "1".repeat(62) + "0");
    }

    private static void allThatWriteAnswer() {
        Check.holds("Promise 3", "Answers likewise (so for all that write).");
        PackedBits x = new PackedBits();
        Check.answers("putRange(7, 7, 7)", () -> x.putRange(7, 7, 7), 0);
        Check.answers("putRange(0, 8, 7)", () -> x.putRange(0, 8, 7), 4);
        Check.answers("putNumber(0, 256)", () -> x.putNumber(0, 256), 28);
        Check.answers("putNumber(1, -128)", () -> x.putNumber(1, -128), 44);
        Check.answers("putNumber(2, 63)", () -> x.putNumber(2, 63), 51);
        Check.answers("putNumber(2, 64)", () -> x.putNumber(2, 64), 68);
        Check.answers("fill()", x::fill, 72);
        Check.answers("putRange(MIN, MAX, 0)", () -> x.putRange(MIN, MAX, 0), 136);
    }

    private static void putLengthOutOfRange() {
        Check.holds("Promise 4", "n 0 or more.");
        Check.writes("putLength(0)", x -> x.putLength(0), "00000000", 0);
        Check.writes("putLength(1)", x -> x.putLength(1), "00000001", 1);
        Check.writes("putLength(MAX)", x -> x.putLength(Integer.MAX_VALUE), "11000100", 65536);
        for (int n : new int[] {-1, -2, -128, -16384, -65536, Integer.MIN_VALUE, Integer.MIN_VALUE + 1}) {
            Check.refuses("putLength(" + n + ")", PackedBits::new, ARGUMENT, x -> x.putLength(n));
            Check.refuses("putLength(" + n + ")", WritingEdgesTest::halfRead, ARGUMENT, x -> x.putLength(n));
        }
    }

    private static void putLengthThePiece() {
        Check.holds("Promise 4", "A LENGTH of n (of 16384 or more: the piece). Answers how many it stands for.");
        int[][] told = {{127, 127}, {128, 128}, {16383, 16383}, {16384, 16384}, {16385, 16384}, {32767, 16384},
            {32768, 32768}, {49151, 32768}, {49152, 49152}, {65535, 49152}, {65536, 65536}, {65537, 65536},
            {81919, 65536}, {81920, 65536}, {81921, 65536}, {1 << 20, 65536}, {1 << 30, 65536}};
        for (int[] pair : told) {
            String bits = Model.length(pair[1]);
            Check.writes("putLength(" + pair[0] + ")", x -> x.putLength(pair[0]), bits, pair[1]);
        }
    }

    private static void putNumberKinds() {
        Check.holds("Promise 5", "kind 0: n without sign (all 64 bits count); 1: with sign; 2: SMALL n (without sign).");
        Check.writes("putNumber(0, 5)", x -> x.putNumber(0, 5), "00000001" + "00000101");
        Check.writes("putNumber(1, 5)", x -> x.putNumber(1, 5), "00000001" + "00000101");
        Check.writes("putNumber(2, 5)", x -> x.putNumber(2, 5), "0" + "000101");
        for (int kind : new int[] {-2, -1, 3, 4, 256, Integer.MIN_VALUE, Integer.MAX_VALUE}) {
            for (long n : new long[] {0, -1, MIN}) {
                String what = "putNumber(" + kind + ", " + n + ")";
                Check.refuses(what, PackedBits::new, ARGUMENT, x -> x.putNumber(kind, n));
                Check.refuses(what, WritingEdgesTest::halfRead, ARGUMENT, x -> x.putNumber(kind, n));
            }
        }
    }

    private static void putNumberAll64Bits() {
        Check.holds("Promise 5", "kind 0: n without sign (all 64 bits count)");
        ends(0);
        Check.writes("putNumber(0, -1)", x -> x.putNumber(0, -1), "00001000" + "1".repeat(64));
        Check.writes("putNumber(0, MIN)", x -> x.putNumber(0, MIN), "00001000" + "1" + "0".repeat(63));
    }

    private static void putNumberWithSign() {
        Check.holds("Promise 5", "1: with sign");
        ends(1);
        Check.writes("putNumber(1, -1)", x -> x.putNumber(1, -1), "00000001" + "11111111");
        Check.writes("putNumber(1, MIN)", x -> x.putNumber(1, MIN), "00001000" + "1" + "0".repeat(63));
    }

    private static void putNumberSmall() {
        Check.holds("Promise 5", "2: SMALL n (without sign).");
        ends(2);
        Check.writes("putNumber(2, 63)", x -> x.putNumber(2, 63), "0" + "111111");
        Check.writes("putNumber(2, 64)", x -> x.putNumber(2, 64), "1" + "00000001" + "01000000");
        Check.writes("putNumber(2, -1)", x -> x.putNumber(2, -1), "1" + "00001000" + "1".repeat(64));
        Check.writes("putNumber(2, MIN)", x -> x.putNumber(2, MIN), "1" + "00001000" + "1" + "0".repeat(63));
    }

    private static void ends(int kind) {
        for (long n : ENDS) {
            String bits = Model.number(kind, n);
            Check.writes("putNumber(" + kind + ", " + n + ")", x -> x.putNumber(kind, n), bits);
            Check.reads("takeNumber(" + kind + ") of " + n, x -> x.takeNumber(kind), bits, n);
        }
    }

    private static void fillUpToEights() {
        Check.holds("Promise 6", "Bits 0 up to eights");
        for (int n = 1; n <= 80; n++) {
            PackedBits x = Check.of("1".repeat(n));
            int eights = (n + 7) / 8 * 8;
            Check.answers("fill() behind " + n, x::fill, eights);
            Check.due("the bits", Check.row(x), "1".repeat(n) + "0".repeat(eights - n));
            Check.answers("the PLACE", () -> x.count(1), 0);
        }
        PackedBits stale = Check.of("1".repeat(16));
        stale.cut(9);
        stale.fill();
        Check.due("over what was cut", Check.row(stale), "1".repeat(9) + "0".repeat(7));
    }

    private static void fillEightAtLeast() {
        Check.holds("Promise 6", "8 at least in all");
        PackedBits x = new PackedBits();
        Check.answers("fill() of none", x::fill, 8);
        Check.due("the bits", Check.row(x), "00000000");
        PackedBits one = Check.of("1");
        Check.answers("fill() of one", one::fill, 8);
        Check.due("the bits", Check.row(one), "10000000");
        PackedBits none = Check.of("1".repeat(24));
        none.go(24);
        none.cut(0);
        Check.answers("fill() of none behind a cut", none::fill, 8);
        Check.due("the bits", Check.row(none), "00000000");
        Check.answers("the PLACE", () -> none.count(1), 0);
    }

    private static void fillNone() {
        Check.holds("Promise 6", "(none if there are eights already)");
        for (int n = 8; n <= 128; n += 8) {
            PackedBits x = Check.of("1".repeat(n));
            Check.answers("fill() of " + n, x::fill, n);
            Check.answers("fill() again", x::fill, n);
            Check.due("the bits", Check.row(x), "1".repeat(n));
        }
    }

    private static void fillToTheFullRow() {
        Check.holds("Promise 6", "Bits 0 up to eights");
        for (int left = 0; left <= 8; left++) {
            PackedBits x = Check.rowOf(65536 - left);
            String before = Check.row(x);
            Check.answers("fill(), " + left + " left", x::fill, left == 8 ? 65528 : 65536);
            Check.due("the bits", Check.row(x), before + "0".repeat(left % 8));
        }
    }
}
