import java.util.zip.CRC32C;

/** Promises 7 to 12: the three sums, of all bytes and of parts. */
public final class SumsTest {
    private static final int[] SEEDS = {0, 1, -1, -1640531535, Integer.MIN_VALUE};
    private static final long[] WIDE_SEEDS = {0L, 1L, -1L, 0x9E3779B97F4A7C15L, Long.MIN_VALUE};

    public static void main(String[] args) {
        knownSums();
        everyShortLength();
        longRows();
        parts();
        noParts();
        Checks.end();
    }

    /** Sums that others have published for these texts. */
    private static void knownSums() {
        StreamSums none = new StreamSums();
        Checks.due("promise 7: none", none.narrow(), 0x02CC5D05);
        Checks.due("promise 8: none", none.wide(), 0xEF46DB3751D8E999L);
        Checks.due("promise 9: none", none.poly(), 0);
        StreamSums abc = Checks.holding(Checks.ascii("abc"));
        Checks.due("promise 7: abc", abc.narrow(), 0x32D153FF);
        Checks.due("promise 8: abc", abc.wide(), 0x44BC2CF5AD770999L);
        StreamSums digits = Checks.holding(Checks.ascii("123456789"));
        Checks.due("promise 9: 123456789", digits.poly(), 0xE3069283);
    }

    private static void everyShortLength() {
        byte[] bytes = Checks.mixedBytes(140, 1);
        StreamSums sums = new StreamSums();
        for (int n = 0; n <= bytes.length; n++) {
            byte[] some = java.util.Arrays.copyOf(bytes, n);
            int seed = SEEDS[n % SEEDS.length];
            long wideSeed = WIDE_SEEDS[n % WIDE_SEEDS.length];
            sums.begin(seed, wideSeed);
            Checks.writeAll(sums, some);
            Checks.due("promise 7: " + n + " bytes", sums.narrow(), PlainSums.narrow(some, 0, n, seed));
            Checks.due("promise 8: " + n + " bytes", sums.wide(), PlainSums.wide(some, 0, n, wideSeed));
            Checks.due("promise 9: " + n + " bytes", sums.poly(), libraryPoly(some, 0, n));
            Checks.holds("the sums change nothing", sums, some);
        }
    }

    private static int libraryPoly(byte[] bytes, int from, int to) {
        CRC32C crc = new CRC32C();
        crc.update(bytes, from, to - from);
        return (int) crc.getValue();
    }

    private static void longRows() {
        byte[] full = new byte[65536];
        System.arraycopy(Checks.mixedBytes(4096, 2), 0, full, 0, 4096);
        for (int k = 4096; k < full.length; k++) {
            full[k] = full[k - 4096];
        }
        StreamSums sums = new StreamSums();
        sums.begin(77, -78L);
        Checks.writeAll(sums, java.util.Arrays.copyOf(full, 4096));
        Checks.due("promise 4: 4096 bytes again", sums.again(4096, 15), true);
        Checks.due("promise 7: full", sums.narrow(), PlainSums.narrow(full, 0, 65536, 77));
        Checks.due("promise 8: full", sums.wide(), PlainSums.wide(full, 0, 65536, -78L));
        Checks.due("promise 9: full", sums.poly(), PlainSums.poly(full, 0, 65536));
        int[][] parts = {{0, 65535}, {1, 65536}, {65533, 65536}, {65505, 65536}, {4095, 40001}, {65536, 65536}};
        for (int[] part : parts) {
            part(sums, full, part[0], part[1]);
        }
    }

    private static void parts() {
        byte[] bytes = Checks.mixedBytes(100, 3);
        StreamSums sums = new StreamSums();
        sums.begin(1234, 5678L);
        Checks.writeAll(sums, bytes);
        for (int from = 0; from <= 100; from += 3) {
            for (int to = from; to <= 100; to++) {
                part(sums, bytes, from, to);
            }
        }
        Checks.holds("parts change nothing", sums, bytes);
        Checks.due("promise 7: the seed stays", sums.narrow(), PlainSums.narrow(bytes, 0, 100, 1234));
        Checks.due("promise 8: the seed stays", sums.wide(), PlainSums.wide(bytes, 0, 100, 5678L));
    }

    private static void part(StreamSums sums, byte[] bytes, int from, int to) {
        String part = "(" + from + ", " + to + ")";
        int seed = SEEDS[(from + to) % SEEDS.length];
        long wideSeed = WIDE_SEEDS[(from + to) % WIDE_SEEDS.length];
        Checks.due("promise 10: narrowOf" + part, sums.narrowOf(from, to, seed),
            PlainSums.narrow(bytes, from, to, seed));
        Checks.due("promise 11: wideOf" + part, sums.wideOf(from, to, wideSeed),
            PlainSums.wide(bytes, from, to, wideSeed));
        Checks.due("promise 12: polyOf" + part, sums.polyOf(from, to), libraryPoly(bytes, from, to));
    }

    private static void noParts() {
        byte[] bytes = Checks.mixedBytes(40, 4);
        StreamSums sums = new StreamSums();
        sums.begin(5, 6L);
        Checks.writeAll(sums, bytes);
        int low = Integer.MIN_VALUE;
        int high = Integer.MAX_VALUE;
        int[][] wrong = {
            {-1, 40}, {0, 41}, {-1, -1}, {41, 41}, {20, 19}, {40, 0}, {low, high}, {high, low}, {low, 40}, {0, high},
            {low, low}, {high, high}, {-1, 0}, {0, -1}, {low, 0}, {65536, 65537}, {0, 65536}, {0, low}};
        for (int[] part : wrong) {
            String text = "(" + part[0] + ", " + part[1] + ")";
            Checks.due("promise 10: narrowOf" + text, sums.narrowOf(part[0], part[1], 9),
                PlainSums.narrow(bytes, 0, 0, 9));
            Checks.due("promise 11: wideOf" + text, sums.wideOf(part[0], part[1], -9L),
                PlainSums.wide(bytes, 0, 0, -9L));
            Checks.due("promise 12: polyOf" + text, sums.polyOf(part[0], part[1]), 0);
        }
    }
}
