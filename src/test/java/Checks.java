/** Counts the answers that are not as due, prints them, and ends a test. */
final class Checks {
    private static int made = 0;
    private static int wrong = 0;

    private Checks() {
    }

    static void due(String what, long got, long want) {
        made++;
        if (got != want) {
            wrong++;
            System.out.println(what + " answered " + got + ", due is " + want);
        }
    }

    static void due(String what, boolean got, boolean want) {
        due(what, got ? 1L : 0L, want ? 1L : 0L);
    }

    static void end() {
        System.out.println(made + " answers, " + wrong + " not as due");
        if (wrong != 0 || made == 0) {
            System.exit(1);
        }
    }

    /** A new object that holds these bytes. */
    static StreamSums holding(byte[] bytes) {
        StreamSums sums = new StreamSums();
        writeAll(sums, bytes);
        return sums;
    }

    static void writeAll(StreamSums sums, byte[] bytes) {
        for (int k = 0; k < bytes.length; k += 8) {
            int n = Math.min(8, bytes.length - k);
            long eight = 0;
            for (int i = 0; i < 8; i++) {
                eight = eight << 8 | (i < n ? bytes[k + i] & 255 : 0);
            }
            due("write of bytes " + k + " and on", sums.write(eight, n), true);
        }
    }

    static void holds(String when, StreamSums sums, byte[] bytes) {
        due(when + ": size()", sums.size(), bytes.length);
        for (int k = 0; k < bytes.length; k++) {
            if (sums.byteAt(k) != (bytes[k] & 255)) {
                due(when + ": byteAt(" + k + ")", sums.byteAt(k), bytes[k] & 255);
                return;
            }
        }
        due(when + ": byteAt(" + bytes.length + ")", sums.byteAt(bytes.length), -1);
    }

    static byte[] ascii(String text) {
        return text.getBytes(java.nio.charset.StandardCharsets.US_ASCII);
    }

    /** Bytes without a plain pattern, the same at each run, many of them above 127. */
    static byte[] mixedBytes(int n, long seed) {
        byte[] bytes = new byte[n];
        new java.util.Random(seed).nextBytes(bytes);
        return bytes;
    }
}
