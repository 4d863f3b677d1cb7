/**
 * Sums over a row of at most 65,536 bytes: a narrow one of 32 bits and a wide one of 64 by products,
 * and one by a polynomial, which can also be joined, cut apart and forged without the bytes.
 */
public final class StreamSums {
    private static final int MOST_BYTES = 65536;

    private static final int P1 = 0x9E3779B1;
    private static final int P2 = 0x85EBCA77;
    private static final int P3 = 0xC2B2AE3D;
    private static final int P4 = 0x27D4EB2F;
    private static final int P5 = 0x165667B1;

    private static final long Q1 = 0x9E3779B185EBCA87L;
    private static final long Q2 = 0xC2B2AE3D27D4EB4FL;
    private static final long Q3 = 0x165667B19E3779F9L;
    private static final long Q4 = 0x85EBCA77C2B2AE63L;
    private static final long Q5 = 0x27D4EB2F165667C5L;

    private static final int POLYNOMIAL = 0x82F63B78;
    private static final int MASK_ADDED = 0xA282EAD8;
    private static final int MASK_ROTATION = 17;

    // A register is a polynomial whose highest bit belongs to x^0, so this register is the number 1.
    private static final int ONE = 0x80000000;

    private final byte[] bytes;
    // What eight steps make of each lowest byte, so that a sum takes one look-up a byte.
    private final int[] eightSteps;
    private int count;
    private int narrowSeed;
    private long wideSeed;

    public StreamSums() {
        bytes = new byte[MOST_BYTES];
        eightSteps = new int[256];
        for (int low = 0; low < 256; low++) {
            eightSteps[low] = movedOn(low, 8);
        }
        count = 0;
        narrowSeed = 0;
        wideSeed = 0L;
    }

    public void begin(int seed, long wideSeed) {
        count = 0;
        narrowSeed = seed;
        this.wideSeed = wideSeed;
    }

    public boolean write(long eight, int n) {
        if (n < 1 || n > 8 || n > MOST_BYTES - count) {
            return false;
        }
        for (int i = 0; i < n; i++) {
            append((int) (eight >>> (56 - 8 * i)));
        }
        return true;
    }

    public boolean again(int m, int n) {
        if (m < 1 || m > count || n < 0) {
            return false;
        }
        // As a long, since m * n may be more than an int holds.
        long more = (long) m * n;
        if (more > MOST_BYTES - count) {
            return false;
        }
        // The row repeats itself every m bytes from here on, so each byte is the one m places before it.
        for (long i = 0; i < more; i++) {
            append(byteAt(count - m));
        }
        return true;
    }

    public int size() {
        return count;
    }

    public int byteAt(int k) {
        return k >= 0 && k < count ? bytes[k] & 255 : -1;
    }

    public int narrow() {
        return narrowSum(0, count, narrowSeed);
    }

    public long wide() {
        return wideSum(0, count, wideSeed);
    }

    public int poly() {
        return polySum(0, count);
    }

    public int narrowOf(int from, int to, int seed) {
        return isPart(from, to) ? narrowSum(from, to, seed) : narrowSum(0, 0, seed);
    }

    public long wideOf(int from, int to, long seed) {
        return isPart(from, to) ? wideSum(from, to, seed) : wideSum(0, 0, seed);
    }

    public int polyOf(int from, int to) {
        return isPart(from, to) ? polySum(from, to) : polySum(0, 0);
    }

    public int masked(int x, boolean back) {
        return back
            ? rotated(x - MASK_ADDED, 32 - MASK_ROTATION)
            : rotated(x, MASK_ROTATION) + MASK_ADDED;
    }

    public int joined(int a, int b, long n) {
        return product(a, power(movedOn(ONE, 8), n)) ^ b;
    }

    public int cut(int ab, int b, long n) {
        return product(ab ^ b, power(movedBack(ONE, 8), n));
    }

    public int forged(int sum) {
        return fourBetween(poly(), sum);
    }

    public int mended(int at, int sum) {
        if (at < 0 || at > count - 4) {
            return 0;
        }
        int behind = at + 4;
        int sumUpToBehind = cut(sum, polySum(behind, count), count - behind);
        return fourBetween(polySum(0, at), sumUpToBehind);
    }

    private void append(int octet) {
        if (count < MOST_BYTES) {
            bytes[count] = (byte) octet;
            count++;
        }
    }

    private boolean isPart(int from, int to) {
        return 0 <= from && from <= to && to <= count;
    }

    private int word(int k) {
        if (k < 0 || k > MOST_BYTES - 4) {
            return 0;
        }
        return bytes[k] & 255
            | (bytes[k + 1] & 255) << 8
            | (bytes[k + 2] & 255) << 16
            | (bytes[k + 3] & 255) << 24;
    }

    private long unsignedWord(int k) {
        return word(k) & 0xFFFFFFFFL;
    }

    private long longWord(int k) {
        return unsignedWord(k) | unsignedWord(k + 4) << 32;
    }

    private static int rotated(int x, int k) {
        return x << k | x >>> (32 - k);
    }

    private static long rotatedLong(long x, int k) {
        return x << k | x >>> (64 - k);
    }

    private int narrowSum(int from, int to, int seed) {
        int n = to - from;
        int h = n >= 16 ? narrowOfLanes(from, to, seed) : seed + P5;
        h += n;
        int k = to - n % 16;
        for (; to - k >= 4; k += 4) {
            h = rotated(h + word(k) * P3, 17) * P4;
        }
        for (; k < to; k++) {
            h = rotated(h + byteAt(k) * P5, 11) * P1;
        }
        return narrowStirred(h);
    }

    private int narrowOfLanes(int from, int to, int seed) {
        int first = seed + P1 + P2;
        int second = seed + P2;
        int third = seed;
        int fourth = seed - P1;
        for (int k = from; to - k >= 16; k += 16) {
            first = narrowLane(first, word(k));
            second = narrowLane(second, word(k + 4));
            third = narrowLane(third, word(k + 8));
            fourth = narrowLane(fourth, word(k + 12));
        }
        return rotated(first, 1) + rotated(second, 7) + rotated(third, 12) + rotated(fourth, 18);
    }

    private static int narrowLane(int lane, int word) {
        return rotated(lane + word * P2, 13) * P1;
    }

    private static int narrowStirred(int h) {
        h = (h ^ h >>> 15) * P2;
        h = (h ^ h >>> 13) * P3;
        return h ^ h >>> 16;
    }

    private long wideSum(int from, int to, long seed) {
        int n = to - from;
        long h = n >= 32 ? wideOfLanes(from, to, seed) : seed + Q5;
        h += n;
        int k = to - n % 32;
        for (; to - k >= 8; k += 8) {
            h = rotatedLong(h ^ wideLane(0L, longWord(k)), 27) * Q1 + Q4;
        }
        if (to - k >= 4) {
            h = rotatedLong(h ^ unsignedWord(k) * Q1, 23) * Q2 + Q3;
            k += 4;
        }
        for (; k < to; k++) {
            h = rotatedLong(h ^ byteAt(k) * Q5, 11) * Q1;
        }
        return wideStirred(h);
    }

    private long wideOfLanes(int from, int to, long seed) {
        long first = seed + Q1 + Q2;
        long second = seed + Q2;
        long third = seed;
        long fourth = seed - Q1;
        for (int k = from; to - k >= 32; k += 32) {
            first = wideLane(first, longWord(k));
            second = wideLane(second, longWord(k + 8));
            third = wideLane(third, longWord(k + 16));
            fourth = wideLane(fourth, longWord(k + 24));
        }
        long h = rotatedLong(first, 1) + rotatedLong(second, 7)
            + rotatedLong(third, 12) + rotatedLong(fourth, 18);
        h = withLane(h, first);
        h = withLane(h, second);
        h = withLane(h, third);
        return withLane(h, fourth);
    }

    private static long wideLane(long lane, long word) {
        return rotatedLong(lane + word * Q2, 31) * Q1;
    }

    private static long withLane(long h, long lane) {
        return (h ^ wideLane(0L, lane)) * Q1 + Q4;
    }

    private static long wideStirred(long h) {
        h = (h ^ h >>> 33) * Q2;
        h = (h ^ h >>> 29) * Q3;
        return h ^ h >>> 32;
    }

    private int polySum(int from, int to) {
        int register = -1;
        for (int k = from; k < to; k++) {
            register = register >>> 8 ^ eightSteps[(register ^ byteAt(k)) & 255];
        }
        return ~register;
    }

    private static int movedOn(int register, int steps) {
        for (int i = 0; i < steps; i++) {
            register = (register & 1) != 0 ? register >>> 1 ^ POLYNOMIAL : register >>> 1;
        }
        return register;
    }

    // The polynomial has its highest bit, so that of a register tells whether a 1 was taken off last.
    private static int movedBack(int register, int steps) {
        for (int i = 0; i < steps; i++) {
            register = register < 0 ? (register ^ POLYNOMIAL) << 1 | 1 : register << 1;
        }
        return register;
    }

    // One step to the right is a product with x, so 8 * n steps are one product with x to the 8 * n.
    private static int product(int a, int b) {
        int sum = 0;
        for (int i = 31; i >= 0; i--) {
            if ((a >>> i & 1) != 0) {
                sum ^= b;
            }
            b = movedOn(b, 1);
        }
        return sum;
    }

    private static int power(int base, long exponent) {
        int result = ONE;
        for (int i = 0; i < 64; i++) {
            if ((exponent >>> i & 1L) != 0L) {
                result = product(result, base);
            }
            base = product(base, base);
        }
        return result;
    }

    // Four bytes put in one after the other do the same as their word put in at once before 32 steps.
    private static int fourBetween(int sumBefore, int sumBehind) {
        return turnedRound(~sumBefore ^ movedBack(~sumBehind, 32));
    }

    private static int turnedRound(int word) {
        return word << 24 | (word & 0xFF00) << 8 | word >>> 8 & 0xFF00 | word >>> 24;
    }
}
