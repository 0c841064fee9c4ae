import java.math.BigInteger;
import java.util.HashMap;
import java.util.Map;

/**
 * The document once more, over a text of 0 and 1. It reads by writing: what was read is written
 * again, and refused if the row has other bits there. So it shares no way of strictness with the program.
 */
final class Model {
    private static final int MOST = 65536;
    private static final Map<String, Integer> LENGTHS = lengths();

    private String row = "";
    private int place = 0;

    static Model of(String bits) {
        Model model = new Model();
        model.row = bits;
        return model;
    }

    static String width(String bits, int n) {
        return "0".repeat(n - bits.length()) + bits;
    }

    static String length(int n) {
        if (n < 128) {
            return "0" + width(Integer.toBinaryString(n), 7);
        }
        if (n < 16384) {
            return "10" + width(Integer.toBinaryString(n), 14);
        }
        return "11" + width(Integer.toBinaryString(n / 16384), 6);
    }

    private static Map<String, Integer> lengths() {
        Map<String, Integer> all = new HashMap<>();
        for (int n = 0; n < 16384; n++) {
            all.put(length(n), n);
        }
        for (int k = 1; k <= 4; k++) {
            all.put(length(k * 16384), k * 16384);
        }
        return all;
    }

    static String number(int kind, long n) {
        if (kind == 2) {
            boolean small = Long.compareUnsigned(n, 64) < 0;
            return small ? "0" + width(Long.toBinaryString(n), 6) : "1" + number(0, n);
        }
        if (kind == 0) {
            String bits = Long.toBinaryString(n);
            int bytes = (bits.length() + 7) / 8;
            return length(bytes) + width(bits, bytes * 8);
        }
        byte[] bytes = BigInteger.valueOf(n).toByteArray();
        StringBuilder text = new StringBuilder(length(bytes.length));
        for (byte b : bytes) {
            text.append(width(Integer.toBinaryString(b & 255), 8));
        }
        return text.toString();
    }

    private static void argument(boolean good) {
        if (!good) {
            throw new IllegalArgumentException();
        }
    }

    private static void so(boolean good) {
        if (!good) {
            throw new UnsupportedOperationException();
        }
    }

    private int write(String bits) {
        if (row.length() + bits.length() > MOST) {
            throw new IndexOutOfBoundsException();
        }
        row += bits;
        return row.length();
    }

    private String look(int at, int n) {
        so(at + n <= row.length());
        return row.substring(at, at + n);
    }

    private static long unsigned(String bits) {
        return bits.isEmpty() ? 0 : Long.parseUnsignedLong(bits, 2);
    }

    private static String field(long low, long high, long n) {
        BigInteger from = BigInteger.valueOf(low);
        BigInteger most = BigInteger.valueOf(high).subtract(from);
        BigInteger mine = BigInteger.valueOf(n).subtract(from);
        return most.signum() == 0 ? "" : width(mine.toString(2), most.bitLength());
    }

    int put(long x, int n) {
        argument(n >= 0 && n <= 64);
        return write(width(Long.toBinaryString(x), 64).substring(64 - n));
    }

    int putRange(long low, long high, long n) {
        argument(low <= n && n <= high);
        return write(field(low, high, n));
    }

    int putLength(int n) {
        argument(n >= 0);
        int told = n < 16384 ? n : n < 65536 ? n - n % 16384 : 65536;
        write(length(told));
        return told;
    }

    int putNumber(int kind, long n) {
        argument(kind >= 0 && kind <= 2);
        return write(number(kind, n));
    }

    int fill() {
        while (row.isEmpty() || row.length() % 8 != 0) {
            write("0");
        }
        return row.length();
    }

    long take(int n) {
        argument(n >= 0 && n <= 64);
        long x = unsigned(look(place, n));
        place += n;
        return x;
    }

    long takeRange(long low, long high) {
        argument(low <= high);
        int width = field(low, high, high).length();
        BigInteger x = new BigInteger("0" + look(place, width), 2).add(BigInteger.valueOf(low));
        so(x.compareTo(BigInteger.valueOf(high)) <= 0);
        place += width;
        return x.longValueExact();
    }

    int takeLength() {
        int n = lengthAt(place);
        place += length(n).length();
        return n;
    }

    private int lengthAt(int at) {
        Integer n = LENGTHS.get(look(at, 8));
        if (n == null) {
            n = LENGTHS.get(look(at, 16));
        }
        so(n != null);
        return n;
    }

    long takeNumber(int kind) {
        argument(kind >= 0 && kind <= 2);
        long n = numberAt(kind, place);
        String form = number(kind, n);
        so(row.startsWith(form, place));
        place += form.length();
        return n;
    }

    private long numberAt(int kind, int at) {
        if (kind == 2) {
            return look(at, 1).equals("0") ? unsigned(look(at + 1, 6)) : numberAt(0, at + 1);
        }
        int bytes = lengthAt(at);
        so(bytes >= 1 && bytes <= 8);
        String bits = look(at + 8, bytes * 8);
        return kind == 1 && bits.startsWith("1") ? unsigned("1".repeat(64 - bits.length()) + bits) : unsigned(bits);
    }

    int go(int p) {
        argument(p >= 0 && p <= row.length());
        int was = place;
        place = p;
        return was;
    }

    boolean turn(int i) {
        argument(i >= 0 && i < row.length());
        boolean now = row.charAt(i) == '0';
        row = row.substring(0, i) + (now ? '1' : '0') + row.substring(i + 1);
        return now;
    }

    int cut(int n) {
        argument(n >= 0 && n <= row.length());
        int was = row.length();
        row = row.substring(0, n);
        place = Math.min(place, n);
        return was;
    }

    int count(int what) {
        argument(what == 0 || what == 1);
        return what == 0 ? row.length() : place;
    }

    String row() {
        return row;
    }
}
