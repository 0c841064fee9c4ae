/** Promises 7 to 10, sentence by sentence at their boundaries. */
public final class ReadingEdgesTest {
    private static final Class<IllegalArgumentException> ARGUMENT = IllegalArgumentException.class;
    private static final Class<UnsupportedOperationException> NOT_SO = UnsupportedOperationException.class;
    private static final long MIN = Long.MIN_VALUE;
    private static final long MAX = Long.MAX_VALUE;

    public static void main(String[] args) {
        takeSoManyBits();
        takeWithoutSign();
        takeMoreThanAreLeft();
        takeRangeLowAboveHigh();
        takeRangeOneOfThem();
        takeRangeOfNoBits();
        takeRangeBeyond();
        takeLengthEdges();
        takeLengthNotSo();
        takeNumberKinds();
        takeNumberMoreThan8Bytes();
        takeNumberNoBytes();
        takeNumberSmallAsNumber();
        takeNumberAcrossForms();
        thePlaceStays();
        everyFormAsTheModelReadsIt();
        Check.end();
    }

    private static void takeSoManyBits() {
        Check.holds("Promise 7", "n 0 .. 64.");
        Check.reads("take(0)", x -> x.take(0), "", 0);
        Check.reads("take(1)", x -> x.take(1), "1", 1);
        Check.reads("take(63)", x -> x.take(63), "1" + "0".repeat(61) + "1", (1L << 62) + 1);
        Check.reads("take(64)", x -> x.take(64), "1" + "0".repeat(62) + "1", MIN + 1);
        int[] refused = {Integer.MIN_VALUE, -64, -1, 65, 128, Integer.MAX_VALUE};
        for (int n : refused) {
            Check.refuses("take(" + n + ")", PackedBits::new, ARGUMENT, x -> x.take(n));
            Check.refuses("take(" + n + ")", () -> Check.at1(Check.MORE), ARGUMENT, x -> x.take(n));
        }
    }

    private static void takeWithoutSign() {
        Check.holds("Promise 7", "So many bits, as a number without sign.");
        for (int i = 1; i <= 64; i++) {
            int n = i;
            Check.reads("take(" + n + ")", x -> x.take(n), "1".repeat(n), -1L >>> 64 - n);
            Check.reads("take(" + n + ")", x -> x.take(n), "1" + "0".repeat(n - 1), 1L << n - 1);
            Check.reads("take(" + n + ")", x -> x.take(n), "0".repeat(n - 1) + "1", 1);
        }
        Check.answers("take(8)", () -> Check.at1("11111111").take(8), 255);
        Check.answers("take(32)", () -> Check.at1("1".repeat(32)).take(32), 4294967295L);
        Check.answers("take(64)", () -> Check.at1("1".repeat(64)).take(64), -1);
    }

    private static void takeMoreThanAreLeft() {
        Check.holds("Terms", "UnsupportedOperationException (reading): the bits that are left are too few");
        for (int left = 0; left < 64; left++) {
            String bits = "1".repeat(left);
            int more = left + 1;
            long ones = (1L << left) - 1;
            Check.answers("take(" + left + ")", () -> Check.at1(bits).take(bits.length()), ones);
            Check.refuses("take(" + more + ") of " + left, () -> Check.at1(bits), NOT_SO, x -> x.take(more));
            Check.refuses("take(64) of " + left, () -> Check.at1(bits), NOT_SO, x -> x.take(64));
        }
        Check.refuses("take(1) behind a cut", () -> cutTo1("1111"), NOT_SO, x -> x.take(1));
        Check.refuses("takeLength() behind a cut", () -> cutTo1("00000000"), NOT_SO, x -> x.takeLength());
    }

    private static PackedBits cutTo1(String bits) {
        PackedBits x = Check.at1(bits);
        x.cut(1);
        return x;
    }

    private static void takeRangeLowAboveHigh() {
        Check.holds("Promise 8", "low .. high as numbers with sign (low above high: out of range)");
        long[][] refused = {{1, 0}, {0, -1}, {1, -1}, {MAX, MIN}, {MIN + 1, MIN}, {MAX, MAX - 1}, {0, MIN}, {MAX, 0},
            {Integer.MAX_VALUE, Integer.MIN_VALUE}};
        for (long[] range : refused) {
            String what = "takeRange(" + range[0] + ", " + range[1] + ")";
            Check.refuses(what, PackedBits::new, ARGUMENT, x -> x.takeRange(range[0], range[1]));
            Check.refuses(what, () -> Check.at1(Check.MORE), ARGUMENT, x -> x.takeRange(range[0], range[1]));
        }
        Check.reads("takeRange(0, 0)", x -> x.takeRange(0, 0), "", 0);
        Check.reads("takeRange(-1, 0)", x -> x.takeRange(-1, 0), "1", 0);
        Check.reads("takeRange(MIN, MAX)", x -> x.takeRange(MIN, MAX), "1" + "0".repeat(63), 0);
    }

    private static void takeRangeOneOfThem() {
        Check.holds("Promise 8", "one of them, from a field");
        for (long n = -3; n <= 5; n++) {
            Check.reads("takeRange(-3, 5)", x -> x.takeRange(-3, 5), Check.text(n + 3, 4), n);
        }
        Check.reads("takeRange(MIN, MAX)", x -> x.takeRange(MIN, MAX), "0".repeat(64), MIN);
        Check.reads("takeRange(MIN, MAX)", x -> x.takeRange(MIN, MAX), "1".repeat(64), MAX);
        Check.reads("takeRange(MIN, MAX)", x -> x.takeRange(MIN, MAX), "0" + "1".repeat(63), -1);
        Check.reads("takeRange(MIN, 0)", x -> x.takeRange(MIN, 0), "1" + "0".repeat(63), 0);
        Check.reads("takeRange(-1, MAX)", x -> x.takeRange(-1, MAX), "1" + "0".repeat(63), MAX);
        Check.reads("takeRange(0, MAX)", x -> x.takeRange(0, MAX), "1".repeat(63), MAX);
        Check.reads("takeRange(MIN, -1)", x -> x.takeRange(MIN, -1), "1".repeat(63), -1);
        long low = Integer.MIN_VALUE;
        long high = Integer.MAX_VALUE;
        Check.reads("takeRange of int", x -> x.takeRange(low, high), "0".repeat(32), low);
        Check.reads("takeRange of int", x -> x.takeRange(low, high), "1".repeat(32), high);
    }

    private static void takeRangeOfNoBits() {
        Check.holds("Promise 8", "(of no bits if there is but one)");
        for (long n : new long[] {MIN, Integer.MIN_VALUE, -1, 0, 1, Integer.MAX_VALUE, MAX}) {
            Check.reads("takeRange(n, n), n " + n, x -> x.takeRange(n, n), "", n);
            Check.answers("takeRange(n, n) of none", () -> new PackedBits().takeRange(n, n), n);
        }
    }

    private static void takeRangeBeyond() {
        Check.holds("Terms", "or not written so, strictly, and the PLACE stays");
        for (int high = 1; high <= 70; high++) {
            int width = Integer.toBinaryString(high).length();
            for (int n = 0; n < 1 << width; n++) {
                rangeOf(high, n, width);
            }
        }
        Check.notSo("takeRange(MIN, MAX - 1)", x -> x.takeRange(MIN, MAX - 1), "1".repeat(64));
        Check.notSo("takeRange(MIN, 0)", x -> x.takeRange(MIN, 0), "1" + "0".repeat(62) + "1");
        Check.notSo("takeRange(-1, MAX)", x -> x.takeRange(-1, MAX), "1" + "0".repeat(62) + "1");
        Check.notSo("takeRange(0, MAX - 1)", x -> x.takeRange(0, MAX - 1), "1".repeat(63));
    }

    private static void rangeOf(int high, int n, int width) {
        String what = "takeRange(-9, " + (high - 9) + ")";
        PackedBits x = Check.at1(Check.text(n, width));
        String due = n <= high ? Integer.toString(n - 9) : "UnsupportedOperationException";
        Check.due(what + " of " + n, Check.outcome(() -> x.takeRange(-9, high - 9)), due);
        Check.answers(what + " of " + n + ", the PLACE", () -> x.count(1), n <= high ? 1 + width : 1);
    }

    private static void takeLengthEdges() {
        Check.holds("Promise 9", "A LENGTH (or piece).");
        int[] lengths = {0, 1, 126, 127, 128, 129, 16382, 16383, 16384, 2 * 16384, 3 * 16384, 4 * 16384};
        for (int n : lengths) {
            Check.reads("takeLength() of " + n, x -> x.takeLength(), Model.length(n), n);
        }
        for (int n = 0; n < 16384; n++) {
            PackedBits x = Check.at1("10" + Check.text(n, 14));
            String due = n < 128 ? "UnsupportedOperationException" : Integer.toString(n);
            Check.due("takeLength() of 14 bits, " + n, Check.outcome(x::takeLength), due);
        }
    }

    private static void takeLengthNotSo() {
        Check.holds("Terms", "below 128: a 0 and 7 bits; ... 6 bits k, 1 .. 4");
        Check.notSo("takeLength()", x -> x.takeLength(), "10" + "00000000000000");
        Check.notSo("takeLength()", x -> x.takeLength(), "10" + "00000001111111");
        Check.notSo("takeLength()", x -> x.takeLength(), "11" + "000000");
        Check.notSo("takeLength()", x -> x.takeLength(), "11" + "000101");
        Check.notSo("takeLength()", x -> x.takeLength(), "11" + "100100");
        Check.notSo("takeLength()", x -> x.takeLength(), "11" + "111111");
    }

    private static void takeNumberKinds() {
        Check.holds("Promise 10", "kind as above");
        Check.reads("takeNumber(0)", x -> x.takeNumber(0), "00000001" + "10000000", 128);
        Check.reads("takeNumber(1)", x -> x.takeNumber(1), "00000001" + "10000000", -128);
        Check.reads("takeNumber(2)", x -> x.takeNumber(2), "0000000", 0);
        for (int kind : new int[] {Integer.MIN_VALUE, -2, -1, 3, 4, 256, Integer.MAX_VALUE}) {
            String what = "takeNumber(" + kind + ")";
            Check.refuses(what, PackedBits::new, ARGUMENT, x -> x.takeNumber(kind));
            Check.refuses(what, () -> Check.at1("00000001" + "10000000"), ARGUMENT, x -> x.takeNumber(kind));
        }
    }

    private static void takeNumberMoreThan8Bytes() {
        Check.holds("Promise 10", "(more than 8 bytes, ... is not written so)");
        String eight = "01".repeat(32);
        long n = Long.parseLong(eight, 2);
        for (int kind = 0; kind <= 2; kind++) {
            int mine = kind;
            String mark = kind == 2 ? "1" : "";
            Check.reads("takeNumber(" + kind + ") of 8 bytes", x -> x.takeNumber(mine), mark + "00001000" + eight, n);
            for (int bytes = 9; bytes < 128; bytes++) {
                String length = Check.text(bytes, 8);
                Check.notSo("takeNumber(" + kind + ")", x -> x.takeNumber(mine), mark + length + "01".repeat(4 * bytes));
                Check.notSo("takeNumber(" + kind + ")", x -> x.takeNumber(mine), mark + length + "0".repeat(8 * bytes));
                Check.notSo("takeNumber(" + kind + ")", x -> x.takeNumber(mine), mark + length + "1".repeat(8 * bytes));
            }
            for (int length : new int[] {128, 129, 256, 264, 16383, 16384, 32768, 65536}) {
                String bits = mark + Model.length(length) + "01".repeat(900);
                Check.notSo("takeNumber(" + kind + ")", x -> x.takeNumber(mine), bits);
            }
            for (int bytes = 0; bytes <= 8; bytes++) {
                String longer = "10" + Check.text(bytes, 14);
                Check.notSo("takeNumber(" + kind + ")", x -> x.takeNumber(mine), mark + longer + eight);
            }
        }
    }

    private static void takeNumberNoBytes() {
        Check.holds("Terms", "in as few bytes as can be (one for 0)");
        Check.reads("takeNumber(0) of 0", x -> x.takeNumber(0), "00000001" + "00000000", 0);
        Check.reads("takeNumber(1) of 0", x -> x.takeNumber(1), "00000001" + "00000000", 0);
        Check.notSo("takeNumber(0)", x -> x.takeNumber(0), "00000000");
        Check.notSo("takeNumber(1)", x -> x.takeNumber(1), "00000000");
        Check.notSo("takeNumber(2)", x -> x.takeNumber(2), "1" + "00000000");
        Check.refuses("takeNumber(0) at the end", () -> Check.at1("00000000"), NOT_SO, x -> x.takeNumber(0));
        Check.refuses("takeNumber(1) at the end", () -> Check.at1("00000000"), NOT_SO, x -> x.takeNumber(1));
        Check.refuses("takeNumber(2) at the end", () -> Check.at1("100000000"), NOT_SO, x -> x.takeNumber(2));
    }

    private static void takeNumberSmallAsNumber() {
        Check.holds("Promise 10", "or a SMALL below 64 as a number, is not written so)");
        for (int n = 0; n < 64; n++) {
            Check.notSo("takeNumber(2), " + n, x -> x.takeNumber(2), "1" + "00000001" + Check.text(n, 8));
        }
        for (int n = 64; n < 256; n++) {
            Check.reads("takeNumber(2)", x -> x.takeNumber(2), "1" + "00000001" + Check.text(n, 8), n);
        }
        Check.reads("takeNumber(2) of MIN", x -> x.takeNumber(2), "1" + "00001000" + "1" + "0".repeat(63), MIN);
        Check.reads("takeNumber(2) of -1", x -> x.takeNumber(2), "1" + "00001000" + "1".repeat(64), -1);
    }

    private static void takeNumberAcrossForms() {
        Check.holds("Promise 10", "kind as above");
        // With sign it is 128, in as few bytes as can be; without sign the same bits have a byte too many.
        String bits = "00000010" + "00000000" + "10000000";
        Check.reads("takeNumber(1)", x -> x.takeNumber(1), bits, 128);
        Check.notSo("takeNumber(0)", x -> x.takeNumber(0), bits);
        // Without sign it is 65408; with sign the same bits are -128 with a byte too many.
        String other = "00000010" + "11111111" + "10000000";
        Check.reads("takeNumber(0)", x -> x.takeNumber(0), other, 65408);
        Check.notSo("takeNumber(1)", x -> x.takeNumber(1), other);
    }

    private static void thePlaceStays() {
        Check.holds("Terms", "UnsupportedOperationException (reading): ... and the PLACE stays");
        PackedBits x = Check.of("101" + "11" + "000101" + "1" + "00000001" + "00111111");
        x.go(3);
        for (int i = 0; i < 3; i++) {
            Check.refuses("takeLength(), k 5", x, NOT_SO, x::takeLength);
            Check.refuses("takeNumber(0), k 5", x, NOT_SO, () -> x.takeNumber(0));
            Check.refuses("takeNumber(1), k 5", x, NOT_SO, () -> x.takeNumber(1));
            Check.refuses("takeRange(0, 2)", x, NOT_SO, () -> x.takeRange(0, 2));
            Check.refuses("take(26) of 25", x, NOT_SO, () -> x.take(26));
        }
        Check.answers("take(2)", () -> x.take(2), 3);
        Check.answers("take(6)", () -> x.take(6), 5);
        Check.refuses("takeNumber(2), 63 as a number", x, NOT_SO, () -> x.takeNumber(2));
        Check.answers("take(1)", () -> x.take(1), 1);
        Check.answers("takeNumber(0)", () -> x.takeNumber(0), 63);
        Check.answers("count(1)", () -> x.count(1), 28);
    }

    private static void everyFormAsTheModelReadsIt() {
        Check.holds("What it is", "written, and read back strictly");
        String[] rests = {"", "0".repeat(63), "1".repeat(63), "1" + "0".repeat(62), "0" + "1".repeat(62)};
        for (int head = 0; head < 1 << 17; head++) {
            String bits = Check.text(head, 17);
            String rest = rests[head % rests.length];
            formOf(bits + rest);
        }
        for (int first = 0; first < 512; first++) {
            for (int bytes = 0; bytes <= 9; bytes++) {
                for (String rest : rests) {
                    formOf(Check.text(bytes, 8) + Check.text(first, 9) + rest);
                    formOf("1" + Check.text(bytes, 8) + Check.text(first, 9) + rest);
                }
            }
        }
    }

    private static void formOf(String bits) {
        PackedBits x = Check.of(bits);
        Model model = Model.of(bits);
        for (int kind = 0; kind <= 3; kind++) {
            int mine = kind;
            String got = Check.outcome(() -> mine == 3 ? x.takeLength() : x.takeNumber(mine));
            String due = Check.outcome(() -> mine == 3 ? model.takeLength() : model.takeNumber(mine));
            Check.due("reader " + kind + " of " + bits, got + " at " + x.go(0), due + " at " + model.go(0));
        }
    }
}
