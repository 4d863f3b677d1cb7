import java.nio.charset.StandardCharsets;
import java.util.Arrays;
import java.util.Random;

/** Rows of bytes for the tests. */
final class Bytes {
    private Bytes() {
    }

    static byte[] ascii(String text) {
        return text.getBytes(StandardCharsets.US_ASCII);
    }

    /** Bytes without a plain pattern, the same at each run, many of them above 127. */
    static byte[] mixed(int n, long start) {
        byte[] bytes = new byte[n];
        new Random(start).nextBytes(bytes);
        return bytes;
    }

    static byte[] filled(int n, int octet) {
        byte[] bytes = new byte[n];
        Arrays.fill(bytes, (byte) octet);
        return bytes;
    }

    static byte[] joined(byte[] first, byte[] second) {
        byte[] both = Arrays.copyOf(first, first.length + second.length);
        System.arraycopy(second, 0, both, first.length, second.length);
        return both;
    }

    /** The row with these four bytes, the first the highest, from place at on. */
    static byte[] withFour(byte[] bytes, int at, int four) {
        byte[] other = Arrays.copyOf(bytes, Math.max(bytes.length, at + 4));
        for (int i = 0; i < 4; i++) {
            other[at + i] = (byte) (four >> (24 - 8 * i));
        }
        return other;
    }

    /** The four bytes from place at on, the first the highest. */
    static int four(byte[] bytes, int at) {
        int four = 0;
        for (int i = 0; i < 4; i++) {
            four = four << 8 | bytes[at + i] & 255;
        }
        return four;
    }

    /** Up to eight bytes from place at on, the first the highest, with noise in those below that are not meant. */
    static long eight(byte[] bytes, int at, int n) {
        long eight = 0;
        for (int i = 0; i < 8; i++) {
            eight = eight << 8 | (i < n ? bytes[at + i] & 255 : 0xA5);
        }
        return eight;
    }
}
