import java.util.Random;
import java.util.function.LongSupplier;

/** Long mixed runs of calls (the same ones each time), answer by answer against the model. */
public final class ModelTest {
    private static final int RUNS = 3000;
    // A call and two counts each, and the row at the end: fewer than 512 calls in all.
    private static final int CALLS = 100;

    private final Random random;
    private final PackedBits x = new PackedBits();
    private final Model model = new Model();
    private final String run;

    private ModelTest(int seed) {
        random = new Random(seed);
        run = "run " + seed + ", ";
    }

    public static void main(String[] args) {
        for (int seed = 0; seed < RUNS; seed++) {
            new ModelTest(seed).go();
        }
        Check.end();
    }

    private void go() {
        for (int i = 0; i < CALLS; i++) {
            int pick = random.nextInt(16);
            if (pick < 6) {
                writeCall(pick);
            } else if (pick < 12) {
                readCall(pick);
            } else {
                placeCall(pick);
            }
            same("count(0)", () -> x.count(0), () -> model.count(0));
            same("count(1)", () -> x.count(1), () -> model.count(1));
        }
        Check.due(run + "the row", Check.row(x), model.row());
    }

    private void writeCall(int pick) {
        long a = number();
        long b = number();
        long c = random.nextBoolean() ? number() : Math.min(a, b) + random.nextInt(4);
        int n = width();
        int length = length();
        int kind = kind();
        switch (pick) {
            case 0 -> same("put(" + a + ", " + n + ")", () -> x.put(a, n), () -> model.put(a, n));
            case 1 -> same("putRange(" + a + ", " + b + ", " + c + ")",
                    () -> x.putRange(a, b, c), () -> model.putRange(a, b, c));
            case 2 -> same("putLength(" + length + ")", () -> x.putLength(length), () -> model.putLength(length));
            case 3 -> same("fill()", x::fill, model::fill);
            case 4 -> header();
            default -> same("putNumber(" + kind + ", " + a + ")",
                    () -> x.putNumber(kind, a), () -> model.putNumber(kind, a));
        }
    }

    /** What looks like the beginning of a LENGTH or number, and often is not written so. */
    private void header() {
        long[] codes = {0, 1, 2, 8, 9, 0x80, 0x81, 0xC0, 0xC1, 0xC4, 0xC5, 0xFF};
        long code = codes[random.nextInt(codes.length)];
        same("put(" + code + ", 8)", () -> x.put(code, 8), () -> model.put(code, 8));
    }

    private void readCall(int pick) {
        long a = number();
        long b = random.nextBoolean() ? number() : a + random.nextInt(20);
        int n = width();
        int kind = kind();
        switch (pick) {
            case 6 -> same("take(" + n + ")", () -> x.take(n), () -> model.take(n));
            case 7, 8 -> same("takeRange(" + a + ", " + b + ")",
                    () -> x.takeRange(a, b), () -> model.takeRange(a, b));
            case 9 -> same("takeLength()", x::takeLength, model::takeLength);
            default -> same("takeNumber(" + kind + ")", () -> x.takeNumber(kind), () -> model.takeNumber(kind));
        }
    }

    private void placeCall(int pick) {
        int size = model.count(0);
        int at = random.nextInt(size + 3) - 1;
        int what = random.nextInt(4) - 1;
        switch (pick) {
            case 12 -> same("go(" + at + ")", () -> x.go(at), () -> model.go(at));
            case 13 -> same("turn(" + at + ")", () -> x.turn(at) ? 1 : 0, () -> model.turn(at) ? 1 : 0);
            case 14 -> same("cut(" + at + ")", () -> x.cut(at), () -> model.cut(at));
            default -> same("count(" + what + ")", () -> x.count(what), () -> model.count(what));
        }
    }

    private void same(String call, LongSupplier mine, LongSupplier due) {
        Check.due(run + call, Check.outcome(mine), Check.outcome(due));
    }

    /** Near a power of two, as often below 0 as above: where the forms change. */
    private long number() {
        long near = (1L << random.nextInt(64)) + random.nextInt(5) - 2;
        return switch (random.nextInt(4)) {
            case 0 -> random.nextInt(80) - 8;
            case 1 -> random.nextLong() >>> random.nextInt(64);
            case 2 -> near;
            default -> -near;
        };
    }

    private int width() {
        return random.nextInt(10) == 0 ? random.nextInt(80) - 8 : random.nextInt(20);
    }

    private int length() {
        int near = (1 << random.nextInt(31)) + random.nextInt(5) - 2;
        return random.nextBoolean() ? near : random.nextInt(140) - 5;
    }

    private int kind() {
        return random.nextInt(10) == 0 ? random.nextInt(6) - 2 : random.nextInt(3);
    }
}
