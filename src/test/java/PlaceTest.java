/** Promises 11 to 14: go, turn, cut and count. */
public final class PlaceTest {
    private static final Class<IllegalArgumentException> ARGUMENT = IllegalArgumentException.class;
    private static final int MIN = Integer.MIN_VALUE;
    private static final int MAX = Integer.MAX_VALUE;

    public static void main(String[] args) {
        go();
        turn();
        cut();
        count();
        Check.end();
    }

    private static void go() {
        PackedBits x = Check.of("10110");
        Check.answers("go(3)", () -> x.go(3), 0);
        Check.answers("go(5)", () -> x.go(5), 3);
        Check.answers("go(0)", () -> x.go(0), 5);
        Check.answers("go(2)", () -> x.go(2), 0);
        Check.answers("go: what is read", () -> x.take(2), 3);
        Check.refuses("go(6)", x, ARGUMENT, () -> x.go(6));
        Check.refuses("go(-1)", x, ARGUMENT, () -> x.go(-1));
        Check.refuses("go(MIN)", x, ARGUMENT, () -> x.go(MIN));
        Check.refuses("go(MAX)", x, ARGUMENT, () -> x.go(MAX));
        PackedBits none = new PackedBits();
        Check.answers("go(0), no bits", () -> none.go(0), 0);
        Check.refuses("go(1), no bits", none, ARGUMENT, () -> none.go(1));
    }

    private static void turn() {
        PackedBits x = Check.of("1".repeat(32) + "0".repeat(38));
        x.go(9);
        Check.due("turn(0)", x.turn(0), false);
        Check.due("turn(33)", x.turn(33), true);
        Check.due("turn(64)", x.turn(64), true);
        Check.due("turn(69)", x.turn(69), true);
        Check.due("turn(69) again", x.turn(69), false);
        Check.due("turn: the bits", Check.row(x), "0" + "1".repeat(31) + "01" + "0".repeat(30) + "1" + "00000");
        Check.answers("turn: the PLACE stays", () -> x.count(1), 9);
        turnRefused(x, 70);
        turnRefused(x, -1);
        turnRefused(x, MIN);
        turnRefused(x, MAX);
        turnRefused(new PackedBits(), 0);
        x.cut(5);
        turnRefused(x, 5);
    }

    private static void turnRefused(PackedBits x, int i) {
        Check.refuses("turn(" + i + ") of " + x.count(0), x, ARGUMENT, () -> x.turn(i) ? 1 : 0);
    }

    private static void cut() {
        PackedBits x = Check.of("1".repeat(70));
        x.go(20);
        Check.answers("cut(70)", () -> x.cut(70), 70);
        Check.answers("cut(21)", () -> x.cut(21), 70);
        Check.answers("cut(21): the PLACE", () -> x.count(1), 20);
        Check.answers("cut(20)", () -> x.cut(20), 21);
        Check.answers("cut(20): the PLACE", () -> x.count(1), 20);
        Check.answers("cut(7)", () -> x.cut(7), 20);
        Check.answers("cut(7): the PLACE", () -> x.count(1), 7);
        Check.due("cut(7): its first are kept", Check.row(x), "1111111");
        Check.refuses("cut(8) of 7", x, ARGUMENT, () -> x.cut(8));
        Check.refuses("cut(-1)", x, ARGUMENT, () -> x.cut(-1));
        Check.refuses("cut(MIN)", x, ARGUMENT, () -> x.cut(MIN));
        Check.refuses("cut(MAX)", x, ARGUMENT, () -> x.cut(MAX));
        Check.answers("cut(0)", () -> x.cut(0), 7);
        Check.answers("cut(0): bits", () -> x.count(0), 0);
        Check.answers("cut(0): the PLACE", () -> x.count(1), 0);
        Check.answers("cut(0) again", () -> x.cut(0), 0);
        Check.answers("cut(0): fill()", x::fill, 8);
    }

    private static void count() {
        PackedBits x = Check.of("101101");
        x.go(4);
        Check.answers("count(0)", () -> x.count(0), 6);
        Check.answers("count(1)", () -> x.count(1), 4);
        Check.refuses("count(2)", x, ARGUMENT, () -> x.count(2));
        Check.refuses("count(-1)", x, ARGUMENT, () -> x.count(-1));
        Check.refuses("count(MIN)", x, ARGUMENT, () -> x.count(MIN));
        Check.refuses("count(MAX)", x, ARGUMENT, () -> x.count(MAX));
    }
}
