import java.util.LinkedHashMap;
import java.util.List;
import java.util.Map;
import java.util.Random;
import java.util.function.Supplier;
import java.util.function.ToLongFunction;

/** Refused calls in many states: every later answer is as if they had not been made. */
public final class RefusedTest {
    private static final int RUNS = 1500;
    // Each may be made of one object, and the row is read at the end: fewer than 512 calls in all.
    private static final int CALLS = 200;
    private static final int MIN = Integer.MIN_VALUE;
    private static final int MAX = Integer.MAX_VALUE;

    private static final List<Supplier<PackedBits>> STATES = List.of(
            PackedBits::new,
            () -> Check.of("1"),
            () -> Check.at1(""),
            () -> Check.at1("11000101"),
            () -> Check.at1("00001001" + Check.MORE),
            () -> Check.rowOf(64),
            RefusedTest::cutAndWrittenAgain,
            () -> Check.rowOf(65535),
            () -> Check.rowOf(65536));

    public static void main(String[] args) {
        outOfRangeInEveryState();
        manyInARow();
        runsWithAndWithout();
        Check.end();
    }

    private static PackedBits cutAndWrittenAgain() {
        PackedBits x = Check.rowOf(200);
        x.go(150);
        x.cut(70);
        x.put(0, 5);
        x.go(66);
        return x;
    }

    private static Map<String, ToLongFunction<PackedBits>> outOfRange() {
        Map<String, ToLongFunction<PackedBits>> calls = new LinkedHashMap<>();
        calls.put("put(-1, -1)", x -> x.put(-1, -1));
        calls.put("put(-1, 65)", x -> x.put(-1, 65));
        calls.put("putRange(0, 9, 10)", x -> x.putRange(0, 9, 10));
        calls.put("putRange(0, 9, -1)", x -> x.putRange(0, 9, -1));
        calls.put("putRange(9, 0, 5)", x -> x.putRange(9, 0, 5));
        calls.put("putLength(-1)", x -> x.putLength(-1));
        calls.put("putNumber(-1, 5)", x -> x.putNumber(-1, 5));
        calls.put("putNumber(3, 5)", x -> x.putNumber(3, 5));
        calls.put("take(-1)", x -> x.take(-1));
        calls.put("take(65)", x -> x.take(65));
        calls.put("takeRange(1, 0)", x -> x.takeRange(1, 0));
        calls.put("takeNumber(-1)", x -> x.takeNumber(-1));
        calls.put("takeNumber(3)", x -> x.takeNumber(3));
        calls.put("go(-1)", x -> x.go(-1));
        calls.put("go(bits + 1)", x -> x.go(x.count(0) + 1));
        calls.put("turn(-1)", x -> x.turn(-1) ? 1 : 0);
        calls.put("turn(bits)", x -> x.turn(x.count(0)) ? 1 : 0);
        calls.put("cut(-1)", x -> x.cut(-1));
        calls.put("cut(bits + 1)", x -> x.cut(x.count(0) + 1));
        calls.put("count(-1)", x -> x.count(-1));
        calls.put("count(2)", x -> x.count(2));
        return calls;
    }

    private static void outOfRangeInEveryState() {
        Check.holds("Terms", "IllegalArgumentException: a number out of range");
        outOfRange().forEach((name, call) -> {
            for (int i = 0; i < STATES.size(); i++) {
                Check.refuses(name + " in state " + i, STATES.get(i), IllegalArgumentException.class, call);
            }
        });
    }

    private static void manyInARow() {
        Check.holds("Terms", "A call that throws changes nothing.");
        for (Supplier<PackedBits> state : STATES) {
            PackedBits x = state.get();
            String before = Check.state(x);
            outOfRange().values().forEach(call -> Check.outcome(() -> call.applyAsLong(x)));
            Check.due("all that is out of range", Check.state(x), before);
        }
    }

    /** The twin is asked only what is not refused, and answers the same. */
    private static void runsWithAndWithout() {
        Check.holds("Terms", "A call that throws changes nothing.");
        for (int seed = 0; seed < RUNS; seed++) {
            Random random = new Random(seed);
            PackedBits asked = new PackedBits();
            PackedBits twin = new PackedBits();
            for (int i = 0; i < CALLS; i++) {
                ToLongFunction<PackedBits> call = callOf(random);
                String got = Check.outcome(() -> call.applyAsLong(asked));
                if (!got.endsWith("Exception")) {
                    Check.due("run " + seed + ", call " + i, got, Check.outcome(() -> call.applyAsLong(twin)));
                }
            }
            Check.due("run " + seed + ", the end", Check.state(asked), Check.state(twin));
        }
    }

    private static ToLongFunction<PackedBits> callOf(Random random) {
        int n = random.nextInt(80) - 8;
        int at = random.nextInt(600) - 40;
        int kind = random.nextInt(5) - 1;
        long x = random.nextLong() >> random.nextInt(64);
        int end = random.nextBoolean() ? MIN : MAX;
        return switch (random.nextInt(16)) {
            case 0 -> p -> p.put(x, n);
            case 1 -> p -> p.putRange(-5, 60, n);
            case 2 -> p -> p.putLength(at);
            case 3, 4 -> p -> p.putNumber(kind, x);
            case 5 -> p -> p.fill();
            case 6 -> p -> p.take(n);
            case 7, 8 -> p -> p.takeRange(-5, n);
            case 9 -> p -> p.takeLength();
            case 10, 11 -> p -> p.takeNumber(kind);
            case 12 -> p -> p.go(at);
            case 13 -> p -> p.turn(at) ? 1 : 0;
            case 14 -> p -> p.cut(at);
            default -> p -> p.go(end);
        };
    }
}
