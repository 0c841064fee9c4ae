import java.util.List;
import java.util.function.LongSupplier;
import java.util.function.Supplier;
import java.util.function.ToLongFunction;

/** What the tests of the project share: comparing an answer with what is due, and counting faults. */
final class Check {
    /** Enough for every field and number, so that a form is not refused for want of bits. */
    static final String MORE = "01".repeat(300);

    private static final List<ToLongFunction<PackedBits>> LATER = List.of(
            x -> x.count(0), x -> x.count(1), x -> x.take(1), x -> x.takeLength(), x -> x.takeNumber(0),
            x -> x.takeNumber(1), x -> x.takeNumber(2), x -> x.takeRange(-3, 9), x -> x.take(64),
            x -> x.count(1), x -> x.put(5, 3), x -> x.putRange(0, 9, 7), x -> x.putLength(300),
            x -> x.putNumber(0, 300), x -> x.putNumber(1, -300), x -> x.putNumber(2, 5), x -> x.fill(),
            x -> x.turn(0) ? 1 : 0, x -> x.go(0), x -> x.count(0));

    private static int wrong = 0;
    private static String sentence = "";

    private Check() {
    }

    /**
     * The checks that follow hold this sentence of the document; a fault is told with it. The words are
     * the document's own, three dots for what is left out: DocumentTest looks them up. Answers the words.
     */
    static String holds(String where, String words) {
        sentence = where + ", \"" + words + "\": ";
        return words;
    }

    static void due(String what, Object got, Object want) {
        if (!want.equals(got)) {
            wrong++;
            System.out.println(sentence + what + ": got " + got + ", due is " + want);
        }
    }

    static void answers(String what, LongSupplier call, long want) {
        due(what, outcome(call), Long.toString(want));
    }

    /** The call throws, and neither THE ROW nor the PLACE is another one behind it. */
    static void refuses(String what, PackedBits x, Class<? extends Exception> error, LongSupplier call) {
        String before = state(x);
        due(what, outcome(call), error.getSimpleName());
        due(what + ", the state behind it", state(x), before);
    }

    /** The call throws, and every later answer is that of a twin that was never asked. */
    static void refuses(String what, Supplier<PackedBits> made, Class<? extends Exception> error,
            ToLongFunction<PackedBits> call) {
        PackedBits asked = made.get();
        due(what, outcome(() -> call.applyAsLong(asked)), error.getSimpleName());
        due(what + ", the answers behind it", later(asked), later(made.get()));
    }

    private static String later(PackedBits x) {
        StringBuilder answers = new StringBuilder(state(x));
        for (ToLongFunction<PackedBits> call : LATER) {
            answers.append(' ').append(outcome(() -> call.applyAsLong(x)));
        }
        answers.append(' ').append(state(x));
        return answers.toString();
    }

    /** Behind a bit 1 the call writes these bits, and answers how many there are now. */
    static void writes(String what, ToLongFunction<PackedBits> call, String bits) {
        writes(what, call, bits, 1 + bits.length());
    }

    static void writes(String what, ToLongFunction<PackedBits> call, String bits, long answer) {
        PackedBits x = of("1");
        answers(what, () -> call.applyAsLong(x), answer);
        due(what + ", the bits", row(x), "1" + bits);
        answers(what + ", the PLACE", () -> x.count(1), 0);
    }

    /** The call reads these bits, be they the last ones or not, and refuses all that is shorter. */
    static void reads(String what, ToLongFunction<PackedBits> call, String bits, long answer) {
        for (String behind : List.of("", "0", "1", MORE)) {
            PackedBits x = at1(bits + behind);
            answers(what + ", " + behind.length() + " bits behind it", () -> call.applyAsLong(x), answer);
            answers(what + ", the PLACE", () -> x.count(1), 1 + bits.length());
        }
        for (int n = 0; n < bits.length(); n++) {
            String less = bits.substring(0, n);
            refuses(what + ", but " + n + " bits", () -> at1(less), UnsupportedOperationException.class, call);
        }
    }

    /** There are bits enough, but they are not written so. */
    static void notSo(String what, ToLongFunction<PackedBits> call, String bits) {
        String name = what + " of " + bits;
        refuses(name, () -> at1(bits + MORE), UnsupportedOperationException.class, call);
    }

    /** A row of a bit 1, that was read, and these bits. */
    static PackedBits at1(String bits) {
        PackedBits x = of("1" + bits);
        x.go(1);
        return x;
    }

    /** A row of so many bits. So many calls may be more than 512, as a full row cannot be had with fewer. */
    static PackedBits rowOf(int bits) {
        PackedBits x = new PackedBits();
        for (int left = bits; left > 0; left -= 64) {
            x.put(0xD2B4A5969F3C0E71L, Math.min(left, 64));
        }
        return x;
    }

    static String outcome(LongSupplier call) {
        try {
            return Long.toString(call.getAsLong());
        } catch (RuntimeException e) {
            return e.getClass().getSimpleName();
        }
    }

    /** THE ROW as a text of 0 and 1; the PLACE is put back. */
    static String row(PackedBits x) {
        int size = x.count(0);
        int place = x.go(0);
        StringBuilder text = new StringBuilder();
        for (int at = 0; at < size; at += 64) {
            int n = Math.min(64, size - at);
            text.append(text(x.take(n), n));
        }
        x.go(place);
        return text.toString();
    }

    static String state(PackedBits x) {
        return row(x) + " at " + x.count(1) + " of " + x.count(0);
    }

    static String text(long x, int n) {
        StringBuilder text = new StringBuilder();
        for (int i = n - 1; i >= 0; i--) {
            text.append((x >>> i & 1) == 1 ? '1' : '0');
        }
        return text.toString();
    }

    /** An object with these bits (spaces do not count), so that a form can be written as it is read. */
    static PackedBits of(String bits) {
        PackedBits x = new PackedBits();
        String plain = bits.replace(" ", "");
        for (int at = 0; at < plain.length(); at += 32) {
            String part = plain.substring(at, Math.min(at + 32, plain.length()));
            x.put(Long.parseLong(part, 2), part.length());
        }
        return x;
    }

    static void end() {
        if (wrong > 0) {
            System.out.println(wrong + " wrong");
            System.exit(1);
        }
    }
}
