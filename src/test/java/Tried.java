import java.util.Arrays;

/**
 * A StreamSums and, beside it, the row and the seeds that it must have by the document. Each call goes through call(),
 * which counts, since the document promises nothing about an object after its 512th call.
 */
final class Tried {
    static final int MOST_BYTES = 65536;
    static final int MOST_CALLS = 512;

    private final StreamSums sums = new StreamSums();
    private byte[] row = {};
    private int seed = 0;
    private long wideSeed = 0L;
    private int calls = 0;

    static Tried holding(byte[] bytes) {
        Tried tried = new Tried();
        tried.takesAll(bytes);
        return tried;
    }

    /** The same with seeds of its own, so that a seed that is lost shows. */
    static Tried begun(byte[] bytes) {
        Tried tried = new Tried();
        tried.begin(-13, -14L);
        tried.takesAll(bytes);
        return tried;
    }

    /** A row of any size in some twenty calls; what it repeats is 61 bytes long, which no lane's width divides. */
    static Tried ofSize(int n) {
        Tried tried = holding(Bytes.mixed(Math.min(n, 61), n));
        while (tried.size() < n) {
            tried.takesAgain(Math.min(tried.size(), n - tried.size()), 1);
        }
        return tried;
    }

    StreamSums call() {
        calls++;
        if (calls > MOST_CALLS) {
            throw new IllegalStateException("the test makes too many calls");
        }
        return sums;
    }

    int callsLeft() {
        return MOST_CALLS - calls;
    }

    int size() {
        return row.length;
    }

    byte[] row() {
        return row.clone();
    }

    void begin(int seed, long wideSeed) {
        call().begin(seed, wideSeed);
        this.seed = seed;
        this.wideSeed = wideSeed;
        row = new byte[0];
    }

    void takes(long eight, int n) {
        Checks.due(writeText(eight, n), call().write(eight, n), true);
        byte[] more = new byte[n];
        for (int i = 0; i < n; i++) {
            more[i] = (byte) (eight >> (56 - 8 * i));
        }
        row = Bytes.joined(row, more);
    }

    void takesAll(byte[] bytes) {
        for (int k = 0; k < bytes.length; k += 8) {
            int n = Math.min(8, bytes.length - k);
            takes(Bytes.eight(bytes, k, n), n);
        }
    }

    void takesAgain(int m, int n) {
        Checks.due(againText(m, n), call().again(m, n), true);
        byte[] last = Arrays.copyOfRange(row, row.length - m, row.length);
        byte[] more = new byte[m * n];
        for (int k = 0; k < more.length; k++) {
            more[k] = last[k % m];
        }
        row = Bytes.joined(row, more);
    }

    void refuses(long eight, int n) {
        Checks.due(writeText(eight, n), call().write(eight, n), false);
        holds("after a refused " + writeText(eight, n));
    }

    void refusesAgain(int m, int n) {
        Checks.due(againText(m, n), call().again(m, n), false);
        holds("after a refused " + againText(m, n));
    }

    /** What the questions about the whole row answer: eight calls. */
    void holds(String when) {
        int n = row.length;
        Checks.due(when + ": size()", call().size(), n);
        Checks.due(when + ": byteAt(-1)", call().byteAt(-1), -1);
        Checks.due(when + ": byteAt(0)", call().byteAt(0), n == 0 ? -1 : row[0] & 255);
        Checks.due(when + ": byteAt(" + (n - 1) + ")", call().byteAt(n - 1), n == 0 ? -1 : row[n - 1] & 255);
        Checks.due(when + ": byteAt(" + n + ")", call().byteAt(n), -1);
        Checks.due(when + ": narrow()", call().narrow(), PlainSums.narrow(row, 0, n, seed));
        Checks.due(when + ": wide()", call().wide(), PlainSums.wide(row, 0, n, wideSeed));
        Checks.due(when + ": poly()", call().poly(), PlainSums.poly(row, 0, n));
    }

    void holdsEachByte(String when) {
        for (int k = 0; k < row.length; k++) {
            Checks.due(when + ": byteAt(" + k + ")", call().byteAt(k), row[k] & 255);
        }
    }

    /** One byte more and all bytes once more: that the row goes on where it was. */
    void goesOn(String when) {
        takes(0x9C00000000000000L, 1);
        holds(when + ", one byte more");
        takesAgain(row.length, 1);
        holds(when + ", all bytes again");
    }

    void partIs(int from, int to, int seed, long wideSeed) {
        sumsOf(from, to, from, to, seed, wideSeed);
    }

    void partIsEmpty(int from, int to, int seed, long wideSeed) {
        sumsOf(from, to, 0, 0, seed, wideSeed);
    }

    private void sumsOf(int from, int to, int start, int end, int seed, long wideSeed) {
        String part = "Of(" + from + ", " + to + ") of " + row.length + " bytes";
        Checks.due("narrow" + part + ", seed " + seed, call().narrowOf(from, to, seed),
            PlainSums.narrow(row, start, end, seed));
        Checks.due("wide" + part + ", seed " + wideSeed, call().wideOf(from, to, wideSeed),
            PlainSums.wide(row, start, end, wideSeed));
        Checks.due("poly" + part, call().polyOf(from, to), PlainSums.poly(row, start, end));
    }

    void forges(int sum) {
        int four = call().forged(sum);
        byte[] more = Bytes.withFour(row, row.length, four);
        Checks.due("forged(" + sum + ") of " + row.length + " bytes is " + four + ", whose sum",
            PlainSums.poly(more, 0, more.length), sum);
    }

    void mends(int at, int sum) {
        int four = call().mended(at, sum);
        byte[] other = Bytes.withFour(row, at, four);
        Checks.due("mended(" + at + ", " + sum + ") of " + row.length + " bytes is " + four + ", whose sum",
            PlainSums.poly(other, 0, row.length), sum);
    }

    void hasNoFourAt(int at, int sum) {
        Checks.due("mended(" + at + ", " + sum + ") of " + row.length + " bytes", call().mended(at, sum), 0);
    }

    private String writeText(long eight, int n) {
        return "write(" + eight + ", " + n + ") behind " + row.length + " bytes";
    }

    private String againText(int m, int n) {
        return "again(" + m + ", " + n + ") of " + row.length + " bytes";
    }
}
