import java.util.Arrays;

/** Promises 1 to 6: the row of bytes. */
public final class RowTest {
    private static final int MOST = 65536;
    private static final byte[] NONE = {};

    public static void main(String[] args) {
        newObject();
        begin();
        write();
        writeRefused();
        again();
        againRefused();
        full();
        byteAt();
        Checks.end();
    }

    private static void newObject() {
        StreamSums sums = new StreamSums();
        Checks.holds("promise 1", sums, NONE);
        Checks.due("promise 1: narrow()", sums.narrow(), PlainSums.narrow(NONE, 0, 0, 0));
        Checks.due("promise 1: wide()", sums.wide(), PlainSums.wide(NONE, 0, 0, 0));
        Checks.due("promise 1: poly()", sums.poly(), 0);
    }

    private static void begin() {
        byte[] first = Checks.ascii("some bytes to be forgotten, more than thirty-two of them");
        StreamSums sums = Checks.holding(first);
        sums.begin(-7, Long.MIN_VALUE + 3);
        Checks.holds("promise 2: begin", sums, NONE);
        Checks.due("promise 2: narrow() of none", sums.narrow(), PlainSums.narrow(NONE, 0, 0, -7));
        Checks.due("promise 2: wide() of none", sums.wide(), PlainSums.wide(NONE, 0, 0, Long.MIN_VALUE + 3));
        Checks.due("promise 2: polyOf(0, 1) of none", sums.polyOf(0, 1), 0);
        Checks.due("promise 2: again(1, 1) of none", sums.again(1, 1), false);
        byte[] second = Checks.ascii("new");
        Checks.writeAll(sums, second);
        Checks.holds("promise 2: written anew", sums, second);
        Checks.due("promise 2: narrow()", sums.narrow(), PlainSums.narrow(second, 0, 3, -7));
        Checks.due("promise 2: wide()", sums.wide(), PlainSums.wide(second, 0, 3, Long.MIN_VALUE + 3));
        sums.begin(0, 0L);
        Checks.due("promise 2: the seeds go", sums.narrow(), PlainSums.narrow(NONE, 0, 0, 0));
        Checks.due("promise 2: the wide seed goes", sums.wide(), PlainSums.wide(NONE, 0, 0, 0));
    }

    private static void write() {
        byte[] eight = {(byte) 0xF1, (byte) 0x82, 3, 0, (byte) 0xFF, 0x7F, (byte) 0x80, 9};
        for (int n = 1; n <= 8; n++) {
            StreamSums sums = new StreamSums();
            Checks.due("promise 3: write of " + n, sums.write(0xF1820300FF7F8009L, n), true);
            Checks.holds("promise 3: write of " + n, sums, Arrays.copyOf(eight, n));
            Checks.due("promise 3: one more", sums.write(0x4100000000000000L, 1), true);
            Checks.due("promise 3: byte behind " + n, sums.byteAt(n), 0x41);
        }
    }

    private static void writeRefused() {
        StreamSums sums = Checks.holding(Checks.ascii("ab"));
        for (int n : new int[] {0, -1, 9, 16, Integer.MAX_VALUE, Integer.MIN_VALUE}) {
            Checks.due("promise 3: write of " + n, sums.write(-1L, n), false);
            Checks.holds("promise 3: write of " + n + " refused", sums, Checks.ascii("ab"));
        }
    }

    private static void again() {
        String[][] runs = {
            {"abc", "1", "4", "abccccc"},
            {"abc", "3", "2", "abcabcabc"},
            {"abc", "2", "1", "abcbc"},
            {"abc", "2", "3", "abcbcbcbc"},
            {"abc", "3", "0", "abc"},
            {"abcdefgh", "5", "2", "abcdefghdefghdefgh"},
        };
        for (String[] run : runs) {
            StreamSums sums = Checks.holding(Checks.ascii(run[0]));
            String call = "promise 4: again(" + run[1] + ", " + run[2] + ")";
            Checks.due(call, sums.again(Integer.parseInt(run[1]), Integer.parseInt(run[2])), true);
            Checks.holds(call, sums, Checks.ascii(run[3]));
        }
        StreamSums high = Checks.holding(new byte[] {-1, -128, 0});
        Checks.due("promise 4: high bytes again", high.again(3, 1), true);
        Checks.holds("promise 4: high bytes again", high, new byte[] {-1, -128, 0, -1, -128, 0});
    }

    private static void againRefused() {
        int[][] calls = {
            {0, 1}, {-1, 1}, {4, 1}, {4, 0}, {0, 0}, {1, -1}, {3, Integer.MIN_VALUE}, {Integer.MIN_VALUE, 1},
            {Integer.MAX_VALUE, 1}, {3, Integer.MAX_VALUE}, {2, 1 << 30}, {2, Integer.MAX_VALUE}, {1, MOST - 2},
            {2, 32767}, {Integer.MIN_VALUE, Integer.MIN_VALUE}, {-2, -2}};
        StreamSums sums = Checks.holding(Checks.ascii("xyz"));
        for (int[] call : calls) {
            String text = "promise 4: again(" + call[0] + ", " + call[1] + ")";
            Checks.due(text, sums.again(call[0], call[1]), false);
            Checks.holds(text + " refused", sums, Checks.ascii("xyz"));
        }
        StreamSums none = new StreamSums();
        Checks.due("promise 4: again(1, 0) of none", none.again(1, 0), false);
        Checks.due("promise 4: again(0, 0) of none", none.again(0, 0), false);
        StreamSums four = Checks.holding(Checks.ascii("wxyz"));
        // 4 * 2^30 is 0 as an int.
        Checks.due("promise 4: again(4, 2^30)", four.again(4, 1 << 30), false);
        Checks.holds("promise 4: again(4, 2^30) refused", four, Checks.ascii("wxyz"));
    }

    private static void full() {
        StreamSums sums = Checks.holding(Checks.ascii("a"));
        Checks.due("promise 4: up to 65,536", sums.again(1, MOST - 1), true);
        Checks.due("promise 5: full", sums.size(), MOST);
        Checks.due("promise 6: the last byte", sums.byteAt(MOST - 1), 'a');
        Checks.due("promise 6: behind the last byte", sums.byteAt(MOST), -1);
        Checks.due("promise 3: write when full", sums.write(0L, 1), false);
        Checks.due("promise 4: again(1, 1) when full", sums.again(1, 1), false);
        Checks.due("promise 4: again(65536, 65536) when full", sums.again(MOST, MOST), false);
        Checks.due("promise 4: again(65536, 0) when full", sums.again(MOST, 0), true);
        Checks.due("promise 5: still full", sums.size(), MOST);

        sums.begin(1, 2L);
        Checks.due("promise 2: not full any more", sums.write(0x6200000000000000L, 1), true);
        Checks.due("promise 4: up to 65,529", sums.again(1, MOST - 8), true);
        Checks.due("promise 3: eight of which one is too many", sums.write(0x3132333435363738L, 8), false);
        Checks.due("promise 5: nothing of them came", sums.size(), MOST - 7);
        Checks.due("promise 3: the seven that fit", sums.write(0x3132333435363738L, 7), true);
        Checks.due("promise 5: full again", sums.size(), MOST);
        Checks.due("promise 6: the last of the seven", sums.byteAt(MOST - 1), '7');

        sums.begin(0, 0L);
        Checks.due("promise 3: after begin", sums.write(-1L, 8), true);
        Checks.due("promise 4: one time too often", sums.again(8, 8192), false);
        Checks.due("promise 5: nothing of it came", sums.size(), 8);
        Checks.due("promise 4: just often enough", sums.again(8, 8191), true);
        Checks.due("promise 5: full at last", sums.size(), MOST);
    }

    private static void byteAt() {
        StreamSums sums = Checks.holding(new byte[] {0, 127, -128, -1});
        Checks.due("promise 6: byteAt(0)", sums.byteAt(0), 0);
        Checks.due("promise 6: byteAt(1)", sums.byteAt(1), 127);
        Checks.due("promise 6: byteAt(2)", sums.byteAt(2), 128);
        Checks.due("promise 6: byteAt(3)", sums.byteAt(3), 255);
        for (int k : new int[] {-1, 4, 65535, 65536, 65537, Integer.MAX_VALUE, Integer.MIN_VALUE}) {
            Checks.due("promise 6: byteAt(" + k + ")", sums.byteAt(k), -1);
        }
    }
}
