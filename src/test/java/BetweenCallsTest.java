import java.util.Arrays;
import java.util.Random;

/**
 * The sentences of promises 13 to 17 that bind one call to another, held against what the class itself answers to the
 * other call, so that a mistake which PlainSums shares would still show.
 */
public final class BetweenCallsTest {
    private static final int MOST = Tried.MOST_BYTES;
    private static final long[] LENGTHS = {
        0L, 1L, 2L, 3L, 4L, 7L, 8L, 255L, 65536L, 1L << 29, 2147483647L, 2147483648L, 4294967295L, 4294967296L,
        (1L << 61) - 1, 1L << 61, 1L << 62, Long.MAX_VALUE, Long.MIN_VALUE, -4294967296L, -65536L, -2L, -1L};
    private static final int[] WANTED = {0, 1, -1, Integer.MIN_VALUE, Integer.MAX_VALUE, 0x82F63B78, 0xE3069283};

    private static final Random RANDOM = new Random(17);

    public static void main(String[] args) {
        Checks.sentence("Promise 13: the number that MASKED is x (masked of masked)", BetweenCallsTest::maskedBothWays);
        Checks.sentence("Promise 14: the POLYNOMIAL SUM of A followed by B (two objects and a third)",
            BetweenCallsTest::joinedOfTwoObjects);
        Checks.sentence("Promise 14: the POLYNOMIAL SUM of A followed by B (two parts of one row)",
            BetweenCallsTest::joinedOfTwoParts);
        Checks.sentence("Promise 14: the POLYNOMIAL SUM of A followed by B (all bytes again)",
            BetweenCallsTest::joinedOfBytesAgain);
        Checks.sentence("Promise 14: B has n bytes (more than a row can have)", BetweenCallsTest::joinedOfLongZeros);
        Checks.sentence("Promise 15: The a for which joined(a, b, n) is ab.", BetweenCallsTest::cutAndJoined);
        Checks.sentence("Promise 15: The a for which joined(a, b, n) is ab (parts of one row)",
            BetweenCallsTest::cutOfParts);
        Checks.sentence("Promise 16: which appended to all bytes would make their POLYNOMIAL SUM this.",
            BetweenCallsTest::forgedAndWritten);
        Checks.sentence("Promise 17: which put in place .. would make the POLYNOMIAL SUM of all bytes this",
            BetweenCallsTest::mendedAndWritten);
        Checks.sentence("Promise 17: which put in place .. (in a full row)", BetweenCallsTest::mendedInAFullRow);
        Checks.sentence("Promise 17: in place of those at place at (whatever they are)",
            BetweenCallsTest::mendedWhateverIsThere);
        Checks.sentence("Promises 16 and 17: what is forged is what would be mended there",
            BetweenCallsTest::forgedIsMended);
        Checks.end();
    }

    private static void maskedBothWays() {
        for (int object = 0; object < 100; object++) {
            Tried tried = new Tried();
            while (tried.callsLeft() >= 4) {
                int x = RANDOM.nextInt();
                int masked = tried.call().masked(x, false);
                Checks.due("back of masked " + x, tried.call().masked(masked, true), x);
                int back = tried.call().masked(x, true);
                Checks.due("masked of back of " + x, tried.call().masked(back, false), x);
            }
        }
    }

    private static void joinedOfTwoObjects() {
        int[] sizes = {0, 1, 2, 3, 4, 5, 8, 16, 61, 300};
        for (int first : sizes) {
            for (int second : sizes) {
                byte[] front = Bytes.mixed(first, 1000L * first + second);
                byte[] rear = Bytes.mixed(second, 1000L * second + first + 7);
                Tried a = Tried.holding(front);
                Tried b = Tried.begun(rear);
                Tried ab = Tried.holding(Bytes.joined(front, rear));
                joins(ab, a.call().poly(), b.call().poly(), b.call().size(), ab.call().poly());
            }
        }
    }

    private static void joinedOfTwoParts() {
        Tried tried = Tried.ofSize(1000);
        for (int round = 0; round < 90; round++) {
            int from = RANDOM.nextInt(1001);
            int to = from + RANDOM.nextInt(1001 - from);
            int between = from + RANDOM.nextInt(to - from + 1);
            joins(tried, tried.call().polyOf(from, between), tried.call().polyOf(between, to), to - between,
                tried.call().polyOf(from, to));
        }
    }

    private static void joinedOfBytesAgain() {
        Tried tried = Tried.holding(Bytes.ascii("z"));
        while (tried.size() < MOST) {
            int before = tried.call().poly();
            int n = tried.call().size();
            tried.takesAgain(n, 1);
            joins(tried, before, before, n, tried.call().poly());
        }
    }

    /** The sum of 2^k bytes 0 comes from that of half as many; what stands before them must not care which way. */
    private static void joinedOfLongZeros() {
        Tried tried = Tried.holding(new byte[1]);
        int zeros = tried.call().poly();
        for (int k = 0; k < 63; k++) {
            long n = 1L << k;
            int twice = tried.call().joined(zeros, zeros, n);
            if (n <= MOST / 2) {
                Checks.due("the sum of " + 2 * n + " bytes 0", twice, zerosOfARow(2 * (int) n));
            }
            int once = tried.call().joined(0x12345678, zeros, n);
            joins(tried, once, zeros, n, tried.call().joined(0x12345678, twice, 2 * n));
            zeros = twice;
        }
    }

    private static int zerosOfARow(int n) {
        Tried tried = Tried.holding(new byte[1]);
        tried.takesAgain(1, n - 1);
        return tried.call().poly();
    }

    private static void joins(Tried tried, int a, int b, long n, int ab) {
        Checks.due("joined(" + a + ", " + b + ", " + n + ")", tried.call().joined(a, b, n), ab);
    }

    private static void cutAndJoined() {
        for (long n : LENGTHS) {
            Tried tried = new Tried();
            while (tried.callsLeft() >= 4) {
                int x = RANDOM.nextInt();
                int b = RANDOM.nextInt();
                String text = "(" + x + ", " + b + ", " + n + ")";
                int a = tried.call().cut(x, b, n);
                Checks.due("joined of cut" + text, tried.call().joined(a, b, n), x);
                int ab = tried.call().joined(x, b, n);
                Checks.due("cut of joined" + text, tried.call().cut(ab, b, n), x);
            }
        }
    }

    private static void cutOfParts() {
        for (int n : new int[] {1, 16, 100, 5000, MOST}) {
            Tried tried = Tried.ofSize(n);
            for (int round = 0; round < 20; round++) {
                int k = round == 0 ? 0 : round == 1 ? n : RANDOM.nextInt(n + 1);
                int b = tried.call().polyOf(k, n);
                Checks.due("cut of the last " + (n - k) + " of " + n, tried.call().cut(tried.call().poly(), b, n - k),
                    tried.call().polyOf(0, k));
            }
        }
    }

    private static void forgedAndWritten() {
        for (int n : new int[] {0, 1, 3, 4, 60, 1000, MOST - 4 * WANTED.length}) {
            Tried tried = Tried.ofSize(n);
            for (int sum : WANTED) {
                int four = tried.call().forged(sum);
                int before = tried.call().poly();
                tried.takes((long) four << 32, 4);
                Checks.due("poly() with forged(" + sum + ")", tried.call().poly(), sum);
                joins(tried, before, tried.call().polyOf(tried.size() - 4, tried.size()), 4, sum);
            }
        }
    }

    private static void mendedAndWritten() {
        for (int n : new int[] {4, 5, 7, 8, 36, 70}) {
            Tried tried = Tried.begun(Bytes.mixed(n, n));
            for (int at = 0; at <= n - 4; at++) {
                int sum = WANTED[(at + n) % WANTED.length] + at / WANTED.length;
                int four = tried.call().mended(at, sum);
                Tried other = Tried.holding(Bytes.withFour(tried.row(), at, four));
                Checks.due("size() with what was mended", other.call().size(), n);
                Checks.due("poly() with mended(" + at + ", " + sum + ") of " + n, other.call().poly(), sum);
            }
        }
    }

    /** The row repeats 64 bytes, so that it can be written once more around the four in less than 512 calls. */
    private static void mendedInAFullRow() {
        byte[] block = Bytes.mixed(64, 5);
        Tried full = Tried.holding(block);
        full.takesAgain(64, MOST / 64 - 1);
        for (int blocks : new int[] {1, 500, MOST / 64 - 2}) {
            int at = 64 * blocks;
            int four = full.call().mended(at, 77 + at);
            Tried other = Tried.holding(block);
            other.takesAgain(64, blocks - 1);
            other.takesAll(Bytes.withFour(block, 0, four));
            other.takesAll(block);
            other.takesAgain(64, MOST / 64 - blocks - 2);
            Checks.due("the test's own row", Arrays.equals(other.row(), Bytes.withFour(full.row(), at, four)), true);
            Checks.due("poly() with mended(" + at + ") of the full row", other.call().poly(), 77 + at);
        }
    }

    private static void mendedWhateverIsThere() {
        byte[] bytes = Bytes.mixed(50, 6);
        Tried tried = Tried.holding(bytes);
        for (int at = 0; at <= 46; at++) {
            int four = tried.call().mended(at, 9);
            Tried other = Tried.holding(Bytes.withFour(bytes, at, RANDOM.nextInt()));
            Checks.due("mended(" + at + ", 9), other bytes there", other.call().mended(at, 9), four);
            Tried same = Tried.holding(Bytes.withFour(bytes, at, four));
            Checks.due("mended(" + at + ", 9) of the mended", same.call().mended(at, 9), four);
        }
    }

    private static void forgedIsMended() {
        for (int n : new int[] {0, 1, 4, 33, 1000, MOST - 4}) {
            Tried tried = Tried.ofSize(n);
            int[] forged = new int[WANTED.length];
            for (int i = 0; i < WANTED.length; i++) {
                forged[i] = tried.call().forged(WANTED[i]);
            }
            tried.takes(RANDOM.nextLong(), 4);
            for (int i = 0; i < WANTED.length; i++) {
                Checks.due("mended(" + n + ", " + WANTED[i] + ")", tried.call().mended(n, WANTED[i]), forged[i]);
            }
        }
    }
}
