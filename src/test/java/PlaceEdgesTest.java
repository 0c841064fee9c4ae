import java.util.function.ToLongFunction;

/** Promises 11 to 14, sentence by sentence at their boundaries. */
public final class PlaceEdgesTest {
    private static final Class<IllegalArgumentException> ARGUMENT = IllegalArgumentException.class;
    private static final int MIN = Integer.MIN_VALUE;
    private static final int MAX = Integer.MAX_VALUE;
    private static final int[] SIZES = {1, 2, 7, 8, 9, 63, 64, 65, 127, 128, 129, 1000};

    public static void main(String[] args) {
        goUpToTheBitsThereAre();
        goAnswersWhatItWas();
        turnABitThereIs();
        turnNoBit();
        turnAnswersWhatItIs();
        cutUpToTheBitsThereAre();
        cutKeepsTheFirst();
        cutAndThePlace();
        cutAnswersWhatThereWas();
        countBitsAndPlace();
        countOutOfRange();
        Check.end();
    }

    private static PackedBits halfRead(int bits) {
        PackedBits x = Check.rowOf(bits);
        x.go(bits / 2);
        return x;
    }

    private static void refused(String call, int bits, ToLongFunction<PackedBits> made) {
        Check.refuses(call + " of " + bits, () -> halfRead(bits), ARGUMENT, made);
    }

    private static void goUpToTheBitsThereAre() {
        Check.holds("Promise 11", "The PLACE is p, 0 .. the bits there are.");
        for (int bits : SIZES) {
            for (int p : new int[] {0, 1, bits - 1, bits}) {
                PackedBits x = halfRead(bits);
                Check.answers("go(" + p + ") of " + bits, () -> x.go(p), bits / 2);
                Check.answers("count(1)", () -> x.count(1), p);
                Check.answers("take(0)", () -> x.take(0), 0);
            }
            for (int p : new int[] {MIN, MIN + 1, -1, bits + 1, 65537, MAX - 1, MAX}) {
                refused("go(" + p + ")", bits, x -> x.go(p));
            }
        }
        PackedBits none = new PackedBits();
        Check.answers("go(0) of 0", () -> none.go(0), 0);
        Check.refuses("go(1) of 0", PackedBits::new, ARGUMENT, x -> x.go(1));
        PackedBits x = Check.of("1111");
        x.cut(2);
        Check.refuses("go(3) behind cut(2)", x, ARGUMENT, () -> x.go(3));
        Check.answers("go(2) behind cut(2)", () -> x.go(2), 0);
        x.put(0, 1);
        Check.answers("go(3) behind put(0, 1)", () -> x.go(3), 2);
    }

    private static void goAnswersWhatItWas() {
        Check.holds("Promise 11", "Answers what it was.");
        PackedBits x = Check.of("10110");
        int was = 0;
        for (int p : new int[] {5, 0, 5, 5, 4, 1, 0, 0}) {
            int before = was;
            Check.answers("go(" + p + ")", () -> x.go(p), before);
            was = p;
        }
        x.take(2);
        Check.answers("go(0) behind take(2)", () -> x.go(0), 2);
    }

    private static void turnABitThereIs() {
        Check.holds("Promise 12", "Bit i is turned");
        for (int bits : SIZES) {
            for (int i : new int[] {0, bits / 2, bits - 1}) {
                PackedBits x = halfRead(bits);
                String row = Check.row(x);
                x.turn(i);
                char turned = row.charAt(i) == '0' ? '1' : '0';
                Check.due("turn(" + i + ") of " + bits, Check.row(x), row.substring(0, i) + turned + row.substring(i + 1));
                Check.answers("count(0)", () -> x.count(0), bits);
                Check.answers("count(1)", () -> x.count(1), bits / 2);
                x.turn(i);
                Check.due("turn(" + i + ") twice", Check.row(x), row);
            }
        }
    }

    private static void turnNoBit() {
        Check.holds("Promise 12", "there is none: IllegalArgumentException.");
        for (int bits : SIZES) {
            for (int i : new int[] {MIN, MIN + 1, -64, -1, bits, bits + 1, 65535, 65536, MAX - 1, MAX}) {
                refused("turn(" + i + ")", bits, x -> x.turn(i) ? 1 : 0);
            }
        }
        for (int i : new int[] {MIN, -1, 0, 1, 65535, 65536, MAX}) {
            Check.refuses("turn(" + i + ") of 0", PackedBits::new, ARGUMENT, x -> x.turn(i) ? 1 : 0);
        }
        PackedBits x = Check.of("1111");
        x.cut(2);
        Check.refuses("turn(2) behind cut(2)", x, ARGUMENT, () -> x.turn(2) ? 1 : 0);
        Check.due("turn(1) behind cut(2)", x.turn(1), false);
    }

    private static void turnAnswersWhatItIs() {
        Check.holds("Promise 12", "Answers what it is now.");
        PackedBits x = Check.of("10" + "0".repeat(62) + "10");
        Check.due("turn(0), 1", x.turn(0), false);
        Check.due("turn(0), 0", x.turn(0), true);
        Check.due("turn(1), 0", x.turn(1), true);
        Check.due("turn(63), 0", x.turn(63), true);
        Check.due("turn(64), 1", x.turn(64), false);
        Check.due("turn(65), 0", x.turn(65), true);
        Check.due("turn(65), 1", x.turn(65), false);
        Check.due("the bits", Check.row(x), "11" + "0".repeat(61) + "1" + "00");
    }

    private static void cutUpToTheBitsThereAre() {
        Check.holds("Promise 13", "n 0 .. the bits there are");
        for (int bits : SIZES) {
            for (int n : new int[] {0, bits - 1, bits}) {
                PackedBits x = halfRead(bits);
                Check.answers("cut(" + n + ") of " + bits, () -> x.cut(n), bits);
                Check.answers("count(0)", () -> x.count(0), n);
            }
            for (int n : new int[] {MIN, MIN + 1, -1, bits + 1, 65536, 65537, MAX - 1, MAX}) {
                refused("cut(" + n + ")", bits, x -> x.cut(n));
            }
        }
        for (int n : new int[] {MIN, -1, 1, 65536, MAX}) {
            Check.refuses("cut(" + n + ") of 0", PackedBits::new, ARGUMENT, x -> x.cut(n));
        }
        PackedBits none = new PackedBits();
        Check.answers("cut(0) of 0", () -> none.cut(0), 0);
    }

    private static void cutKeepsTheFirst() {
        Check.holds("Promise 13", "THE ROW keeps its first n");
        for (int bits : SIZES) {
            for (int n : new int[] {0, 1, bits / 2, bits - 1, bits}) {
                PackedBits x = Check.rowOf(bits);
                String row = Check.row(x);
                x.cut(n);
                Check.due("cut(" + n + ") of " + bits, Check.row(x), row.substring(0, n));
                x.put(0, 64);
                x.put(-1, 1);
                Check.due("written behind cut(" + n + ")", Check.row(x), row.substring(0, n) + "0".repeat(64) + "1");
            }
        }
    }

    private static void cutAndThePlace() {
        Check.holds("Promise 13", "the PLACE is no greater.");
        for (int n = 0; n <= 9; n++) {
            for (int p = 0; p <= 9; p++) {
                PackedBits x = Check.of("101100111");
                x.go(p);
                x.cut(n);
                Check.answers("go(" + p + "), cut(" + n + ")", () -> x.count(1), Math.min(p, n));
                x.put(0, 9);
                Check.answers("written behind it", () -> x.count(1), Math.min(p, n));
            }
        }
    }

    private static void cutAnswersWhatThereWas() {
        Check.holds("Promise 13", "Answers how many there were.");
        PackedBits x = Check.of("1".repeat(65));
        int was = 65;
        for (int n : new int[] {65, 64, 64, 63, 1, 1, 0, 0}) {
            int before = was;
            Check.answers("cut(" + n + ")", () -> x.cut(n), before);
            was = n;
        }
    }

    private static void countBitsAndPlace() {
        Check.holds("Promise 14", "0 bits, 1 the PLACE.");
        for (int bits : SIZES) {
            PackedBits x = halfRead(bits);
            Check.answers("count(0)", () -> x.count(0), bits);
            Check.answers("count(1)", () -> x.count(1), bits / 2);
            x.go(bits);
            Check.answers("all read, count(1)", () -> x.count(1), bits);
        }
        Check.answers("new, count(0)", () -> new PackedBits().count(0), 0);
        Check.answers("new, count(1)", () -> new PackedBits().count(1), 0);
    }

    private static void countOutOfRange() {
        Check.holds("Promise 14", "what 0, 1.");
        for (int what : new int[] {MIN, MIN + 1, -2, -1, 2, 3, 65536, MAX - 1, MAX}) {
            refused("count(" + what + ")", 9, x -> x.count(what));
            Check.refuses("count(" + what + ") of 0", PackedBits::new, ARGUMENT, x -> x.count(what));
        }
    }
}
