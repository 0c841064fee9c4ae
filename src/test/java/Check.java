import java.util.function.LongSupplier;

/** What the tests of the project share: comparing an answer with what is due, and counting faults. */
final class Check {
    private static int wrong = 0;

    private Check() {
    }

    static void due(String what, Object got, Object want) {
        if (!want.equals(got)) {
            wrong++;
            System.out.println(what + ": got " + got + ", due is " + want);
        }
    }

    static void answers(String what, LongSupplier call, long want) {
        due(what, outcome(call), Long.toString(want));
    }

    /** The call throws, and neither THE ROW nor the PLACE is another one behind it. */
    static void refuses(String what, PackedBits x, Class<? extends Exception> error, LongSupplier call) {
        String before = state(x);
        due(what, outcome(call), error.getSimpleName());
        due(what + ", the state behind it", state(x), before);
    }

    static String outcome(LongSupplier call) {
        try {
            return Long.toString(call.getAsLong());
        } catch (RuntimeException e) {
            return e.getClass().getSimpleName();
        }
    }

    /** THE ROW as a text of 0 and 1; the PLACE is put back. */
    static String row(PackedBits x) {
        int size = x.count(0);
        int place = x.go(0);
        StringBuilder text = new StringBuilder();
        for (int at = 0; at < size; at += 64) {
            int n = Math.min(64, size - at);
            text.append(text(x.take(n), n));
        }
        x.go(place);
        return text.toString();
    }

    static String state(PackedBits x) {
        return row(x) + " at " + x.count(1) + " of " + x.count(0);
    }

    static String text(long x, int n) {
        StringBuilder text = new StringBuilder();
        for (int i = n - 1; i >= 0; i--) {
            text.append((x >>> i & 1) == 1 ? '1' : '0');
        }
        return text.toString();
    }

    /** An object with these bits (spaces do not count), so that a form can be written as it is read. */
    static PackedBits of(String bits) {
        PackedBits x = new PackedBits();
        String plain = bits.replace(" ", "");
        for (int at = 0; at < plain.length(); at += 32) {
            String part = plain.substring(at, Math.min(at + 32, plain.length()));
            x.put(Long.parseLong(part, 2), part.length());
        }
        return x;
    }

    static void end() {
        if (wrong > 0) {
            System.out.println(wrong + " wrong");
            System.exit(1);
        }
    }
}
