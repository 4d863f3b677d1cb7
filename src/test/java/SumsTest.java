import java.util.zip.CRC32C;

/** Promises 7 to 9, and what the document's terms say of the three sums. */
public final class SumsTest {
    private static final int MOST = Tried.MOST_BYTES;
    private static final int P1 = (int) 2654435761L;
    private static final int P2 = (int) 2246822519L;
    private static final int P5 = 374761393;
    private static final long Q1 = Long.parseUnsignedLong("11400714785074694791");
    private static final long Q2 = Long.parseUnsignedLong("14029467366897019727");
    private static final long Q5 = 2870177450012600261L;

    public static void main(String[] args) {
        Checks.sentence("Promises 7 and 8: sums that others have published", SumsTest::publishedProductSums);
        Checks.sentence("Promise 9: sums that others have published", SumsTest::publishedPolynomialSums);
        Checks.sentence("Promises 7 to 9: of all bytes (none)", SumsTest::ofNone);
        Checks.sentence("Promises 7 to 9: of all bytes (as many as there can be)", SumsTest::ofTheFullRow);
        Checks.sentence("Promises 7 to 9: a sum changes nothing", SumsTest::changesNothing);
        Checks.sentence("Narrow sum: if n is at least 16 .. If n is less", () -> sizes(1, 14, 15, 16, 17));
        Checks.sentence("Narrow sum: as long as 16 bytes are left", () -> sizes(31, 32, 33, 47, 48, 49, 160));
        Checks.sentence("Narrow sum: as long as 4 bytes are left .. then for each byte (no lanes)",
            () -> sizesBetween(0, 16));
        Checks.sentence("Narrow sum: as long as 4 bytes are left .. then for each byte (behind the lanes)",
            () -> sizesBetween(16, 32));
        Checks.sentence("Wide sum: 32 bytes .. With less than 32 bytes", () -> sizes(1, 30, 31, 32, 33));
        Checks.sentence("Wide sum: 32 bytes and long words (more than once)", () -> sizes(63, 64, 65, 95, 96, 97, 320));
        Checks.sentence("Wide sum: as long as 8 bytes are left .. if 4 are left .. then for each byte (no lanes)",
            () -> sizesBetween(0, 32));
        Checks.sentence("Wide sum: as long as 8 bytes are left .. if 4 are left .. then for each byte (after lanes)",
            () -> sizesBetween(32, 64));
        Checks.sentence("Wide sum: if 4 are left .. (their word without a sign)", SumsTest::wordsWithoutSign);
        Checks.sentence("Terms: a word .. the first the lowest; bytes 0 .. 255", SumsTest::bytesWithoutSign);
        Checks.sentence("Terms: modulo 2^32 or 2^64 (the seed's sums with no lanes)", SumsTest::seedsThatWrap);
        Checks.sentence("Terms: modulo 2^32 or 2^64 (the seed's sums with lanes)", SumsTest::laneSeedsThatWrap);
        Checks.sentence("Terms: modulo 2^32 or 2^64 (h + n)", SumsTest::lengthsThatWrap);
        Checks.sentence("Terms: >> brings zeros in", SumsTest::highestBitAtLast);
        Checks.sentence("Polynomial sum: all 1 at first .. At last all bits are turned over", SumsTest::ofZerosAndOnes);
        Checks.end();
    }

    /** The bytes and sums of the self-test that came with the first published writing of these sums. */
    private static void publishedProductSums() {
        productSums(1, 0, 0xB85CBEE5, 0x4FCE394CC88952D8L);
        productSums(1, P1, 0xD5845D64, 0x739840CB819FA723L);
        productSums(14, 0, 0xE5AA0AB4, 0xCFFA8DB881BC3A3DL);
        productSums(14, P1, 0x4481951D, 0x5B9611585EFCC9CBL);
        productSums(101, 0, 0x1F1AA412, 0x0EAB543384F878ADL);
        productSums(101, P1, 0x498EC8E2, 0xCAA65939306F1E21L);
        productSums(0, 0, 0x02CC5D05, 0xEF46DB3751D8E999L);
        productSums(0, P1, 0x36B78AE7, 0xAC75FDA2929B17EFL);
    }

    private static void productSums(int n, int seed, int narrow, long wide) {
        byte[] bytes = new byte[n];
        int next = P1;
        for (int k = 0; k < n; k++) {
            bytes[k] = (byte) (next >>> 24);
            next *= next;
        }
        Tried tried = new Tried();
        tried.begin(seed, seed & 0xFFFFFFFFL);
        tried.takesAll(bytes);
        Checks.due("narrow() of " + n + ", seed " + seed, tried.call().narrow(), narrow);
        Checks.due("wide() of " + n + ", seed " + seed, tried.call().wide(), wide);
    }

    /** Those of RFC 3720, appendix B.4, and the one that is told of the nine digits. */
    private static void publishedPolynomialSums() {
        polynomialSum(Bytes.ascii("123456789"), 0xE3069283);
        polynomialSum(Bytes.filled(32, 0), 0x8A9136AA);
        polynomialSum(Bytes.filled(32, 255), 0x62A8AB43);
        byte[] up = new byte[32];
        byte[] down = new byte[32];
        for (int k = 0; k < 32; k++) {
            up[k] = (byte) k;
            down[k] = (byte) (31 - k);
        }
        polynomialSum(up, 0x46DD794E);
        polynomialSum(down, 0x113FDB5C);
    }

    private static void polynomialSum(byte[] bytes, int due) {
        Checks.due("poly() of " + bytes.length, Tried.holding(bytes).call().poly(), due);
    }

    private static void ofNone() {
        Tried tried = new Tried();
        Checks.due("poly() of none", tried.call().poly(), 0);
        for (int seed : new int[] {0, 1, -1, -P5, P1}) {
            tried.begin(seed, ~(long) seed);
            tried.holds("none, seed " + seed);
        }
        tried.takes(-1L, 8);
        tried.begin(0, 0L);
        tried.holds("none any more");
    }

    private static void ofTheFullRow() {
        for (int n : new int[] {MOST - 33, MOST - 17, MOST - 1, MOST}) {
            Tried tried = Tried.ofSize(n);
            tried.holds(n + " bytes");
            Checks.due("poly() of " + n + " by the library", tried.call().poly(), libraryPoly(tried.row()));
        }
    }

    private static void changesNothing() {
        Tried tried = Tried.holding(Bytes.mixed(50, 4));
        tried.holds("the first time");
        tried.holds("the second time");
        tried.holdsEachByte("afterwards");
        tried.goesOn("afterwards");
    }

    private static void sizesBetween(int first, int end) {
        for (int n = first; n < end; n++) {
            sizes(n);
        }
    }

    private static void sizes(int... sizes) {
        for (int n : sizes) {
            for (int seed : new int[] {0, 1, -1, P1}) {
                byte[] bytes = Bytes.mixed(n, 100L * n + seed);
                Tried tried = new Tried();
                tried.begin(seed, seed * Q1);
                tried.takesAll(bytes);
                tried.holds(n + " bytes, seed " + seed);
                Checks.due("poly() of " + n + " by the library", tried.call().poly(), libraryPoly(bytes));
            }
        }
    }

    private static int libraryPoly(byte[] bytes) {
        CRC32C crc = new CRC32C();
        crc.update(bytes, 0, bytes.length);
        return (int) crc.getValue();
    }

    private static void wordsWithoutSign() {
        for (int n : new int[] {4, 5, 6, 7, 12, 15, 28, 31, 36, 39, 44, 63}) {
            Tried.holding(Bytes.filled(n, 255)).holds(n + " bytes 255");
            Tried.holding(Bytes.filled(n, 128)).holds(n + " bytes 128");
        }
        // Only the highest bit of the word of four.
        Tried.holding(new byte[] {0, 0, 0, -128}).holds("the word 2^31");
    }

    private static void bytesWithoutSign() {
        for (int octet : new int[] {0, 1, 127, 128, 255}) {
            for (int n : new int[] {1, 2, 3, 9, 16, 17, 32, 33}) {
                Tried.holding(Bytes.filled(n, octet)).holds(n + " bytes " + octet);
            }
        }
        // One byte that is not 0 at each place that a word or a long word has.
        for (int k = 0; k < 64; k++) {
            byte[] bytes = new byte[64];
            bytes[k] = -127;
            Tried.holding(bytes).holds("64 bytes, not 0 at " + k);
        }
    }

    private static void seedsThatWrap() {
        int[] seeds = {-P5 - 1, -P5, -P5 + 1, Integer.MAX_VALUE - P5, Integer.MIN_VALUE - P5, Integer.MAX_VALUE, -1};
        long[] wideSeeds = {-Q5 - 1, -Q5, -Q5 + 1, Long.MAX_VALUE - Q5, Long.MIN_VALUE - Q5, Long.MAX_VALUE, -1L};
        for (int n : new int[] {0, 1, 4, 15}) {
            seedsOf(n, seeds, wideSeeds);
        }
    }

    private static void laneSeedsThatWrap() {
        int[] seeds = {
            -P1 - P2 - 1, -P1 - P2, -P2 - 1, -P2, -1, 0, P1 - 1, P1, Integer.MAX_VALUE - P2, Integer.MIN_VALUE + P1};
        long[] wideSeeds = {
            -Q1 - Q2 - 1, -Q1 - Q2, -Q2 - 1, -Q2, -1L, 0L, Q1 - 1, Q1, Long.MAX_VALUE - Q2, Long.MIN_VALUE + Q1};
        for (int n : new int[] {16, 32, 63}) {
            seedsOf(n, seeds, wideSeeds);
        }
    }

    private static void seedsOf(int n, int[] seeds, long[] wideSeeds) {
        for (int i = 0; i < seeds.length; i++) {
            Tried tried = new Tried();
            tried.begin(seeds[i], wideSeeds[i]);
            tried.takesAll(Bytes.mixed(n, i));
            tried.holds(n + " bytes, seeds " + seeds[i] + " and " + wideSeeds[i]);
        }
    }

    private static void lengthsThatWrap() {
        // With these seeds h is 2^32 - k or 2^64 - k before n is added.
        for (int k = 1; k <= 16; k++) {
            for (int n = k - 1; n <= k; n++) {
                Tried tried = new Tried();
                tried.begin(-P5 - k, -Q5 - k);
                tried.takesAll(Bytes.mixed(n, k));
                tried.holds(n + " bytes, h short of the end by " + k);
            }
        }
    }

    private static void highestBitAtLast() {
        int narrowBelow = 0;
        int wideBelow = 0;
        for (int i = 0; i < 40; i++) {
            Tried tried = Tried.holding(Bytes.mixed(i % 5, i));
            tried.holds("bytes of start " + i);
            narrowBelow += tried.call().narrow() < 0 ? 1 : 0;
            wideBelow += tried.call().wide() < 0 ? 1 : 0;
        }
        Checks.due("both signs of narrow() were tried", narrowBelow > 0 && narrowBelow < 40, true);
        Checks.due("both signs of wide() were tried", wideBelow > 0 && wideBelow < 40, true);
    }

    private static void ofZerosAndOnes() {
        for (int n : new int[] {0, 1, 2, 3, 4, 5, 8}) {
            polynomialSum(Bytes.filled(n, 0), libraryPoly(Bytes.filled(n, 0)));
            polynomialSum(Bytes.filled(n, 255), libraryPoly(Bytes.filled(n, 255)));
        }
        // Four bytes 255 meet the first register bit by bit and leave 0, so at last it is all 1.
        polynomialSum(Bytes.filled(4, 255), -1);
        // One set bit at each place: the lowest goes first.
        for (int bit = 0; bit < 8; bit++) {
            polynomialSum(Bytes.filled(1, 1 << bit), libraryPoly(Bytes.filled(1, 1 << bit)));
        }
    }
}
