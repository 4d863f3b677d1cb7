/** Promises 13 to 15: what is told of the polynomial sum without the bytes. */
public final class PolynomialTest {
    private static final int MOST = Tried.MOST_BYTES;
    private static final int ADDED = (int) 2726488792L;
    private static final int[] NUMBERS = {
        0, 1, 2, -1, 255, 0x80000000, 0x7FFFFFFF, 0x82F63B78, ADDED, -ADDED, 0x12345678, 0xE3069283};
    // With those for which n or 8 * n wraps around in an int or a long, or changes its sign there.
    private static final long[] LENGTHS = {
        0L, 1L, 2L, 3L, 4L, 5L, 255L, 256L, 65535L, 65536L, (1L << 28) - 1, 1L << 28, (1L << 28) + 1, (1L << 29) + 1,
        2147483646L, 2147483647L, 2147483648L, 4294967295L, 4294967296L, 4294967297L, (1L << 60) - 1, 1L << 60,
        (1L << 61) - 1, 1L << 61, (1L << 61) + 1, 1L << 62, Long.MAX_VALUE, Long.MIN_VALUE, Long.MIN_VALUE + 1,
        -4294967296L, -65536L, -3L, -2L, -1L};
    // The register comes round after 2^31 - 1 bytes with nothing put in, so that so many can be left out of a length.
    private static final long ROUND = 2147483647L;

    public static void main(String[] args) {
        Checks.sentence("Promise 13: x MASKED", PolynomialTest::masked);
        Checks.sentence("Promise 13: x MASKED (the sum wraps around)", PolynomialTest::maskedWraps);
        Checks.sentence("Promise 13: when back, the number that MASKED is x.", PolynomialTest::maskedBack);
        Checks.sentence("Promise 14: a moved on by n bytes .. 8 * n times one to the right .. ^ b",
            PolynomialTest::joinedByFew);
        Checks.sentence("Promise 14: a moved on by n bytes (n is 0)", PolynomialTest::joinedByNone);
        Checks.sentence("Promise 14: n bytes (without a sign)", PolynomialTest::joinedWithoutSign);
        Checks.sentence("Promise 14: a moved on by n bytes (all numbers and lengths)", PolynomialTest::joinedByAll);
        Checks.sentence("Promise 14: That is the POLYNOMIAL SUM of A followed by B", PolynomialTest::joinedOfBytes);
        Checks.sentence("Promise 14: of A followed by B (either is empty, both are)", PolynomialTest::joinedOfEmpty);
        Checks.sentence("Promise 15: The a for which joined(a, b, n) is ab.", PolynomialTest::cut);
        Checks.sentence("Promise 15: The a for which joined(a, b, n) is ab (n is 0)", PolynomialTest::cutByNone);
        Checks.sentence("Promise 15: The a for which .. (n without a sign)", PolynomialTest::cutWithoutSign);
        Checks.sentence("Promise 15: The a for which .. (sums of bytes)", PolynomialTest::cutOfBytes);
        Checks.sentence("Promises 13 to 15: they change nothing", PolynomialTest::changeNothing);
        Checks.end();
    }

    private static void masked() {
        Tried tried = new Tried();
        Checks.due("masked(0, false)", tried.call().masked(0, false), ADDED);
        Checks.due("masked(1, false)", tried.call().masked(1, false), ADDED + (1 << 17));
        Checks.due("masked(2^15, false)", tried.call().masked(1 << 15, false), ADDED + 1);
        Checks.due("masked(2^31, false)", tried.call().masked(1 << 31, false), ADDED + (1 << 16));
        for (int x : NUMBERS) {
            Checks.due("masked(" + x + ", false)", tried.call().masked(x, false), PlainSums.masked(x));
        }
    }

    private static void maskedWraps() {
        Tried tried = new Tried();
        // What rotates to 2^32 - 2726488792 - 1, to the same + 1, and to 2^32 - 1.
        int last = Integer.rotateRight(-ADDED - 1, 17);
        int first = Integer.rotateRight(-ADDED, 17);
        Checks.due("masked just before the end", tried.call().masked(last, false), -1);
        Checks.due("masked just past the end", tried.call().masked(first, false), 0);
        Checks.due("masked(-1, false)", tried.call().masked(-1, false), ADDED - 1);
        Checks.due("masked(-1, true)", tried.call().masked(-1, true), last);
        Checks.due("masked(0, true)", tried.call().masked(0, true), first);
        Checks.due("masked(2726488791, true)", tried.call().masked(ADDED - 1, true), -1);
        Checks.due("masked(2726488792, true)", tried.call().masked(ADDED, true), 0);
    }

    private static void maskedBack() {
        Tried tried = new Tried();
        for (int x : NUMBERS) {
            Checks.due("masked back to " + x, tried.call().masked(PlainSums.masked(x), true), x);
            Checks.due("masked of back of " + x, PlainSums.masked(tried.call().masked(x, true)), x);
        }
        for (int bit = 0; bit < 32; bit++) {
            Checks.due("masked back to bit " + bit, tried.call().masked(PlainSums.masked(1 << bit), true), 1 << bit);
        }
    }

    private static void joinedByFew() {
        for (int n : new int[] {1, 2, 3, 4, 5, 8, 31, 32, 33, 300, 65535, 65536}) {
            Tried tried = new Tried();
            for (int a : NUMBERS) {
                joins(tried, a, 0, n, PlainSums.stepped(a, n));
                joins(tried, a, -1, n, ~PlainSums.stepped(a, n));
                joins(tried, 0, a, n, a);
            }
        }
    }

    private static void joinedByNone() {
        Tried tried = new Tried();
        for (int a : NUMBERS) {
            for (int b : NUMBERS) {
                joins(tried, a, b, 0L, a ^ b);
            }
        }
    }

    private static void joinedWithoutSign() {
        Tried tried = new Tried();
        for (int a : NUMBERS) {
            Checks.due("the test's own round", PlainSums.movedOn(a, ROUND), a);
            // 2^62 is 1 more than a multiple of 2^31 - 1; so 2^63 is 2 more, and 2^64 - k is 4 - k more.
            joins(tried, a, 5, 1L << 62, PlainSums.stepped(a, 1) ^ 5);
            joins(tried, a, 5, Long.MAX_VALUE, PlainSums.stepped(a, 1) ^ 5);
            joins(tried, a, 5, Long.MIN_VALUE, PlainSums.stepped(a, 2) ^ 5);
            joins(tried, a, 5, Long.MIN_VALUE + 1, PlainSums.stepped(a, 3) ^ 5);
            joins(tried, a, 5, -1L, PlainSums.stepped(a, 3) ^ 5);
            joins(tried, a, 5, -2L, PlainSums.stepped(a, 2) ^ 5);
            joins(tried, a, 5, -3L, PlainSums.stepped(a, 1) ^ 5);
            joins(tried, a, 5, -4L, a ^ 5);
            joins(tried, a, 5, -4L - ROUND, a ^ 5);
        }
    }

    private static void joinedByAll() {
        for (int a : NUMBERS) {
            for (int b : NUMBERS) {
                Tried tried = new Tried();
                for (long n : LENGTHS) {
                    joins(tried, a, b, n, PlainSums.movedOn(a, n) ^ b);
                }
            }
        }
    }

    private static void joinedOfBytes() {
        byte[] bytes = Bytes.mixed(90, 8);
        Tried tried = Tried.holding(bytes);
        for (int k = 0; k <= 90; k++) {
            int a = PlainSums.poly(bytes, 0, k);
            int b = PlainSums.poly(bytes, k, 90);
            joins(tried, a, b, 90 - k, PlainSums.poly(bytes, 0, 90));
        }
        Tried full = Tried.ofSize(MOST);
        for (int k : new int[] {0, 1, 30000, MOST - 1, MOST}) {
            int a = full.call().polyOf(0, k);
            int b = full.call().polyOf(k, MOST);
            joins(full, a, b, MOST - k, full.call().poly());
        }
    }

    private static void joinedOfEmpty() {
        byte[] bytes = Bytes.mixed(17, 9);
        int sum = PlainSums.poly(bytes, 0, 17);
        Tried tried = new Tried();
        joins(tried, 0, 0, 0L, 0);
        joins(tried, sum, 0, 0L, sum);
        joins(tried, 0, sum, 17L, sum);
        joins(tried, 0, sum, -1L, sum);
    }

    private static void joins(Tried tried, int a, int b, long n, int ab) {
        Checks.due("joined(" + a + ", " + b + ", " + n + ")", tried.call().joined(a, b, n), ab);
    }

    private static void cut() {
        for (int a : NUMBERS) {
            for (int b : NUMBERS) {
                Tried tried = new Tried();
                for (long n : LENGTHS) {
                    cuts(tried, PlainSums.movedOn(a, n) ^ b, b, n, a);
                    int found = tried.call().cut(a, b, n);
                    Checks.due("joined of cut(" + a + ", " + b + ", " + n + ")", PlainSums.movedOn(found, n) ^ b, a);
                }
            }
        }
    }

    private static void cutByNone() {
        Tried tried = new Tried();
        for (int ab : NUMBERS) {
            for (int b : NUMBERS) {
                cuts(tried, ab, b, 0L, ab ^ b);
            }
        }
    }

    private static void cutWithoutSign() {
        Tried tried = new Tried();
        for (int a : NUMBERS) {
            cuts(tried, PlainSums.stepped(a, 1) ^ 5, 5, 1L << 62, a);
            cuts(tried, PlainSums.stepped(a, 1) ^ 5, 5, Long.MAX_VALUE, a);
            cuts(tried, PlainSums.stepped(a, 2) ^ 5, 5, Long.MIN_VALUE, a);
            cuts(tried, PlainSums.stepped(a, 3) ^ 5, 5, Long.MIN_VALUE + 1, a);
            cuts(tried, PlainSums.stepped(a, 3) ^ 5, 5, -1L, a);
            cuts(tried, PlainSums.stepped(a, 2) ^ 5, 5, -2L, a);
            cuts(tried, PlainSums.stepped(a, 1) ^ 5, 5, -3L, a);
            cuts(tried, a ^ 5, 5, -4L, a);
        }
    }

    private static void cutOfBytes() {
        byte[] bytes = Bytes.mixed(90, 10);
        Tried tried = Tried.holding(bytes);
        for (int k = 0; k <= 90; k++) {
            cuts(tried, tried.call().poly(), PlainSums.poly(bytes, k, 90), 90 - k, PlainSums.poly(bytes, 0, k));
        }
    }

    private static void cuts(Tried tried, int ab, int b, long n, int a) {
        Checks.due("cut(" + ab + ", " + b + ", " + n + ")", tried.call().cut(ab, b, n), a);
    }

    private static void changeNothing() {
        Tried tried = new Tried();
        tried.begin(1, 2L);
        tried.takesAll(Bytes.ascii("of no account to them"));
        for (long n : LENGTHS) {
            tried.call().joined(3, 4, n);
            tried.call().cut(3, 4, n);
        }
        tried.call().masked(3, false);
        tried.call().masked(3, true);
        tried.holds("afterwards");
        tried.goesOn("afterwards");
        Tried none = new Tried();
        Checks.due("joined, whatever the row", none.call().joined(3, 4, 5L), tried.call().joined(3, 4, 5L));
        Checks.due("cut, whatever the row", none.call().cut(3, 4, 5L), tried.call().cut(3, 4, 5L));
        Checks.due("masked, whatever the row", none.call().masked(3, false), tried.call().masked(3, false));
    }
}
