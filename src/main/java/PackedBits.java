/**
 * Numbers packed into bits without gaps, as the unaligned packed rules have them: written one
 * behind the other into THE ROW, and read back strictly from its PLACE.
 */
public final class PackedBits {

    private static final int MOST_BITS = 65536;
    private static final int WORD_BITS = 64;
    private static final int BYTE_BITS = 8;

    private static final int WITHOUT_SIGN = 0;
    private static final int WITH_SIGN = 1;
    private static final int SMALL = 2;
    private static final int SMALL_NUMBERS = 64;
    private static final int SMALL_BITS = 7;

    private static final int SHORT_LENGTHS = 128;
    private static final int SHORT_LENGTH_BITS = 8;
    private static final int LONG_LENGTH_BITS = 16;
    private static final int LONG_LENGTH_MARK = 0x8000;
    private static final int PIECE = 16384;
    private static final int PIECES_MARK = 0xC0;
    private static final int MOST_PIECES = 4;
    private static final int MOST_BYTES = 8;

    private static final int COUNT_BITS = 0;
    private static final int COUNT_PLACE = 1;

    private final long[] words;
    private int size;
    private int place;

    public PackedBits() {
        words = new long[MOST_BITS / WORD_BITS];
        size = 0;
        place = 0;
    }

    public int put(long x, int n) throws IllegalArgumentException, IndexOutOfBoundsException {
        requireWidth(n);
        requireRoom(n);
        append(x, n);
        return size;
    }

    public int putRange(long low, long high, long n)
            throws IllegalArgumentException, IndexOutOfBoundsException {
        if (n < low || n > high) {
            throw new IllegalArgumentException("the number is not in the range");
        }
        int width = bitsToHold(high - low);
        requireRoom(width);
        append(n - low, width);
        return size;
    }

    public int putLength(int n) throws IllegalArgumentException, IndexOutOfBoundsException {
        if (n < 0) {
            throw new IllegalArgumentException("the length is below 0");
        }
        int told = n < PIECE ? n : Math.min(n / PIECE, MOST_PIECES) * PIECE;
        requireRoom(lengthWidth(told));
        append(lengthCode(told), lengthWidth(told));
        return told;
    }

    public int putNumber(int kind, long n)
            throws IllegalArgumentException, IndexOutOfBoundsException {
        requireKind(kind);
        if (kind == SMALL && isSmall(n)) {
            requireRoom(SMALL_BITS);
            append(n, SMALL_BITS);
        } else {
            appendNumber(kind, n);
        }
        return size;
    }

    public int fill() throws IndexOutOfBoundsException {
        int missing = size == 0 ? BYTE_BITS : (BYTE_BITS - size % BYTE_BITS) % BYTE_BITS;
        requireRoom(missing);
        append(0, missing);
        return size;
    }

    public long take(int n) throws IllegalArgumentException, UnsupportedOperationException {
        requireWidth(n);
        long x = bitsAt(place, n);
        place += n;
        return x;
    }

    public long takeRange(long low, long high)
            throws IllegalArgumentException, UnsupportedOperationException {
        if (low > high) {
            throw new IllegalArgumentException("the range is empty");
        }
        int width = bitsToHold(high - low);
        long x = bitsAt(place, width);
        if (Long.compareUnsigned(x, high - low) > 0) {
            throw new UnsupportedOperationException("the field is beyond the range");
        }
        place += width;
        return low + x;
    }

    public int takeLength() throws UnsupportedOperationException {
        int n = lengthAt(place);
        place += lengthWidth(n);
        return n;
    }

    public long takeNumber(int kind)
            throws IllegalArgumentException, UnsupportedOperationException {
        requireKind(kind);
        long n = kind == SMALL ? smallAt(place) : numberAt(kind, place);
        place += numberWidth(kind, n);
        return n;
    }

    public int go(int p) throws IllegalArgumentException {
        requireCut(p);
        int was = place;
        place = p;
        return was;
    }

    public boolean turn(int i) throws IllegalArgumentException {
        if (i < 0 || i >= size) {
            throw new IllegalArgumentException("there is no such bit");
        }
        long now = 1 - bit(i);
        setBit(i, now);
        return now == 1;
    }

    public int cut(int n) throws IllegalArgumentException {
        requireCut(n);
        int was = size;
        size = n;
        place = Math.min(place, n);
        return was;
    }

    public int count(int what) throws IllegalArgumentException {
        if (what != COUNT_BITS && what != COUNT_PLACE) {
            throw new IllegalArgumentException("there is no such count");
        }
        return what == COUNT_BITS ? size : place;
    }

    private static void requireWidth(int n) {
        if (n < 0 || n > WORD_BITS) {
            throw new IllegalArgumentException("the width is not 0 .. 64");
        }
    }

    private static void requireKind(int kind) {
        if (kind < WITHOUT_SIGN || kind > SMALL) {
            throw new IllegalArgumentException("there is no such kind");
        }
    }

    private void requireCut(int n) {
        if (n < 0 || n > size) {
            throw new IllegalArgumentException("the row does not reach so far");
        }
    }

    // Asked once for a whole call, before its first bit, so that a refused call changes nothing.
    private void requireRoom(int n) {
        if (n > MOST_BITS - size) {
            throw new IndexOutOfBoundsException("the row would have more than 65536 bits");
        }
    }

    private void append(long x, int n) {
        for (int i = n - 1; i >= 0; i--) {
            setBit(size, (x >>> i) & 1);
            size++;
        }
    }

    private void appendNumber(int kind, long n) {
        int bytes = bytesToHold(kind, n);
        requireRoom(numberWidth(kind, n));
        append(1, kind == SMALL ? 1 : 0);
        append(lengthCode(bytes), lengthWidth(bytes));
        append(n, bytes * BYTE_BITS);
    }

    // A bit behind a cut is stale, so that 0 has to be written like 1.
    private void setBit(int i, long b) {
        long mask = 1L << (i % WORD_BITS);
        int w = i / WORD_BITS;
        words[w] = b == 1 ? words[w] | mask : words[w] & ~mask;
    }

    private long bit(int i) {
        return (words[i / WORD_BITS] >>> (i % WORD_BITS)) & 1;
    }

    // The readers below only look: the PLACE moves when the whole call has succeeded.
    private long bitsAt(int at, int n) {
        if (n > size - at) {
            throw new UnsupportedOperationException("the bits that are left are too few");
        }
        long x = 0;
        for (int i = at; i < at + n; i++) {
            x = x << 1 | bit(i);
        }
        return x;
    }

    private int lengthAt(int at) {
        if (bitsAt(at, 1) == 0) {
            return (int) bitsAt(at + 1, SHORT_LENGTH_BITS - 1);
        }
        return bitsAt(at + 1, 1) == 0 ? longLengthAt(at + 2) : piecesAt(at + 2);
    }

    private int longLengthAt(int at) {
        int n = (int) bitsAt(at, LONG_LENGTH_BITS - 2);
        if (n < SHORT_LENGTHS) {
            throw new UnsupportedOperationException("the length has a shorter form");
        }
        return n;
    }

    private int piecesAt(int at) {
        int k = (int) bitsAt(at, SHORT_LENGTH_BITS - 2);
        if (k < 1 || k > MOST_PIECES) {
            throw new UnsupportedOperationException("the pieces are not 1 .. 4");
        }
        return k * PIECE;
    }

    private long smallAt(int at) {
        if (bitsAt(at, 1) == 0) {
            return bitsAt(at + 1, SMALL_BITS - 1);
        }
        long n = numberAt(WITHOUT_SIGN, at + 1);
        if (isSmall(n)) {
            throw new UnsupportedOperationException("the small number has a shorter form");
        }
        return n;
    }

    private long numberAt(int kind, int at) {
        int bytes = lengthAt(at);
        if (bytes < 1 || bytes > MOST_BYTES) {
            throw new UnsupportedOperationException("the bytes are not 1 .. 8");
        }
        int width = bytes * BYTE_BITS;
        long n = bitsAt(at + lengthWidth(bytes), width);
        if (kind == WITH_SIGN) {
            n = n << (WORD_BITS - width) >> (WORD_BITS - width);
        }
        if (bytesToHold(kind, n) != bytes) {
            throw new UnsupportedOperationException("the number has a shorter form");
        }
        return n;
    }

    private static boolean isSmall(long n) {
        return n >= 0 && n < SMALL_NUMBERS;
    }

    private static int bitsToHold(long n) {
        return WORD_BITS - Long.numberOfLeadingZeros(n);
    }

    private static int bytesToHold(int kind, long n) {
        // The complement of a number below 0 needs as many bits as the number, and one for the sign.
        int bits = kind == WITH_SIGN ? 1 + bitsToHold(n < 0 ? ~n : n) : bitsToHold(n);
        return Math.max(1, (bits + BYTE_BITS - 1) / BYTE_BITS);
    }

    // What is read strictly has one form alone, so that its width follows from its value.
    private static int lengthWidth(int n) {
        return n >= SHORT_LENGTHS && n < PIECE ? LONG_LENGTH_BITS : SHORT_LENGTH_BITS;
    }

    private static int lengthCode(int n) {
        if (n < SHORT_LENGTHS) {
            return n;
        }
        return n < PIECE ? LONG_LENGTH_MARK | n : PIECES_MARK | n / PIECE;
    }

    private static int numberWidth(int kind, long n) {
        if (kind == SMALL && isSmall(n)) {
            return SMALL_BITS;
        }
        int bytes = bytesToHold(kind, n);
        return (kind == SMALL ? 1 : 0) + lengthWidth(bytes) + bytes * BYTE_BITS;
    }
}
