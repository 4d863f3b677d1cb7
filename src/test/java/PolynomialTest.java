import java.util.Random;

/** Promises 13 to 17: what is told of the polynomial sum. */
public final class PolynomialTest {
    private static final int[] NUMBERS = {
        0, 1, 2, -1, 255, 0x80000000, 0x7FFFFFFF, 0x82F63B78, 0xA282EAD8, 0x12345678, 0xE3069283};
    private static final long[] LENGTHS = {
        0L, 1L, 2L, 3L, 4L, 5L, 255L, 256L, 65535L, 65536L, 2147483646L, 2147483647L, 2147483648L, 4294967295L,
        4294967296L, 1L << 61, 1L << 62, (1L << 61) - 1, Long.MAX_VALUE, Long.MIN_VALUE, Long.MIN_VALUE + 1, -2L, -1L};

    public static void main(String[] args) {
        masked();
        joinedAndCut();
        joinedOfBytes();
        forged();
        mended();
        mendedWhereNoFourAre();
        Checks.end();
    }

    private static void masked() {
        StreamSums sums = new StreamSums();
        Checks.due("promise 13: masked(0)", sums.masked(0, false), 0xA282EAD8);
        Checks.due("promise 13: masked back", sums.masked(0xA282EAD8, true), 0);
        for (int x : NUMBERS) {
            Checks.due("promise 13: masked(" + x + ")", sums.masked(x, false), PlainSums.masked(x));
            Checks.due("promise 13: masked back to " + x, sums.masked(PlainSums.masked(x), true), x);
        }
    }

    private static void joinedAndCut() {
        StreamSums sums = Checks.holding(Checks.ascii("of no account"));
        for (int a : NUMBERS) {
            for (int b : NUMBERS) {
                for (long n : LENGTHS) {
                    int ab = PlainSums.movedOn(a, n) ^ b;
                    Checks.due("promise 14: joined(" + a + ", " + b + ", " + n + ")", sums.joined(a, b, n), ab);
                    Checks.due("promise 15: cut(" + ab + ", " + b + ", " + n + ")", sums.cut(ab, b, n), a);
                }
            }
        }
        Checks.holds("joined and cut change nothing", sums, Checks.ascii("of no account"));
    }

    private static void joinedOfBytes() {
        byte[] bytes = Checks.mixedBytes(90, 5);
        StreamSums sums = Checks.holding(bytes);
        for (int k = 0; k <= 90; k++) {
            int a = PlainSums.poly(bytes, 0, k);
            int b = PlainSums.poly(bytes, k, 90);
            Checks.due("promise 14: joined at " + k, sums.joined(a, b, 90 - k), sums.poly());
            Checks.due("promise 15: cut at " + k, sums.cut(sums.poly(), b, 90 - k), a);
        }
    }

    private static void forged() {
        for (int n : new int[] {0, 1, 3, 4, 17, 300}) {
            byte[] bytes = Checks.mixedBytes(n, 6);
            for (int sum : NUMBERS) {
                StreamSums sums = Checks.holding(bytes);
                int four = sums.forged(sum);
                Checks.holds("forged changes nothing", sums, bytes);
                sums.write((long) four << 32, 4);
                Checks.due("promise 16: forged(" + sum + ") behind " + n, sums.poly(), sum);
            }
        }
        StreamSums full = Checks.holding(new byte[] {9});
        full.again(1, 65535);
        byte[] more = new byte[65540];
        java.util.Arrays.fill(more, (byte) 9);
        put(more, 65536, full.forged(123));
        Checks.due("promise 16: forged behind the full row", PlainSums.poly(more, 0, 65540), 123);
        Checks.due("promise 16: the full row stays", full.size(), 65536);
    }

    private static void mended() {
        Random random = new Random(7);
        for (int n : new int[] {4, 5, 7, 8, 61}) {
            byte[] bytes = Checks.mixedBytes(n, 8);
            StreamSums sums = Checks.holding(bytes);
            for (int at = 0; at <= n - 4; at++) {
                mendedAt(sums, bytes, at, random.nextInt());
                mendedAt(sums, bytes, at, NUMBERS[at % NUMBERS.length]);
            }
            Checks.holds("mended changes nothing", sums, bytes);
        }
        byte[] full = new byte[65536];
        java.util.Arrays.fill(full, (byte) 200);
        StreamSums sums = Checks.holding(new byte[] {(byte) 200});
        sums.again(1, 65535);
        for (int at : new int[] {0, 1, 30000, 65531, 65532}) {
            mendedAt(sums, full, at, at * 77777 + 5);
        }
        Checks.due("promise 17: no four at 65533", sums.mended(65533, 5), 0);
    }

    private static void mendedAt(StreamSums sums, byte[] bytes, int at, int sum) {
        byte[] other = bytes.clone();
        put(other, at, sums.mended(at, sum));
        Checks.due("promise 17: mended(" + at + ", " + sum + ") of " + bytes.length,
            PlainSums.poly(other, 0, other.length), sum);
        int own = (bytes[at] & 255) << 24 | (bytes[at + 1] & 255) << 16 | (bytes[at + 2] & 255) << 8 | bytes[at + 3] & 255;
        Checks.due("promise 17: the sum that is, at " + at, sums.mended(at, sums.poly()), own);
    }

    private static void put(byte[] bytes, int at, int four) {
        for (int i = 0; i < 4; i++) {
            bytes[at + i] = (byte) (four >> (24 - 8 * i));
        }
    }

    private static void mendedWhereNoFourAre() {
        for (int n : new int[] {0, 1, 2, 3, 4, 9}) {
            StreamSums sums = Checks.holding(Checks.mixedBytes(n, 9));
            for (int at : new int[] {-1, -4, n - 3, n - 1, n, n + 1, 65536, Integer.MAX_VALUE, Integer.MAX_VALUE - 3,
                    Integer.MIN_VALUE, Integer.MIN_VALUE + 3}) {
                if (at < 0 || at > n - 4) {
                    Checks.due("promise 17: mended(" + at + ", 7) of " + n, sums.mended(at, 7), 0);
                }
            }
        }
        // Bytes of before a begin are no bytes.
        StreamSums sums = Checks.holding(Checks.mixedBytes(20, 10));
        sums.begin(0, 0L);
        sums.write(-1L, 3);
        Checks.due("promise 17: after begin", sums.mended(0, 7), 0);
    }
}
