import java.util.Arrays;
import java.util.Random;

/** Runs of 512 calls of all kinds, each answer held against a plain model; the same runs each time. */
public final class LongRunsTest {
    private final StreamSums sums = new StreamSums();
    private final Random random;
    private byte[] row = {};
    private int seed = 0;
    private long wideSeed = 0L;

    private LongRunsTest(long start) {
        random = new Random(start);
    }

    public static void main(String[] args) {
        for (int run = 0; run < 60; run++) {
            LongRunsTest test = new LongRunsTest(run);
            for (int call = 0; call < 512; call++) {
                test.call("run " + run + ", call " + call);
            }
        }
        Checks.end();
    }

    private void call(String when) {
        switch (random.nextInt(22)) {
            case 0 -> begin();
            case 1, 2, 3, 4, 5 -> write(when);
            case 6, 7 -> again(when);
            case 8 -> Checks.due(when + ": size", sums.size(), row.length);
            case 9 -> byteAt(when);
            case 10 -> Checks.due(when + ": narrow", sums.narrow(), PlainSums.narrow(row, 0, row.length, seed));
            case 11 -> Checks.due(when + ": wide", sums.wide(), PlainSums.wide(row, 0, row.length, wideSeed));
            case 12 -> Checks.due(when + ": poly", sums.poly(), PlainSums.poly(row, 0, row.length));
            case 13, 14, 15 -> part(when);
            case 16 -> masked(when);
            case 17, 18 -> joinedAndCut(when);
            case 19 -> forged(when);
            default -> mended(when);
        }
    }

    private void begin() {
        // Seldom, so that rows grow long.
        if (random.nextInt(4) == 0) {
            seed = random.nextInt();
            wideSeed = random.nextLong();
            row = new byte[0];
            sums.begin(seed, wideSeed);
        }
    }

    private void write(String when) {
        long eight = random.nextLong();
        int n = random.nextInt(11) - 1;
        boolean fits = n >= 1 && n <= 8 && row.length + n <= 65536;
        Checks.due(when + ": write of " + n, sums.write(eight, n), fits);
        if (fits) {
            int old = row.length;
            row = Arrays.copyOf(row, old + n);
            for (int i = 0; i < n; i++) {
                row[old + i] = (byte) (eight >> (56 - 8 * i));
            }
        }
    }

    private void again(String when) {
        int m = random.nextInt(Math.min(row.length, 300) + 2);
        int n = random.nextInt(6) == 0 ? random.nextInt() : random.nextInt(5) - 1;
        boolean fits = m >= 1 && m <= row.length && n >= 0 && row.length + (long) m * n <= 65536;
        Checks.due(when + ": again(" + m + ", " + n + ")", sums.again(m, n), fits);
        if (fits) {
            byte[] last = Arrays.copyOfRange(row, row.length - m, row.length);
            int old = row.length;
            row = Arrays.copyOf(row, old + m * n);
            for (int i = 0; i < n; i++) {
                System.arraycopy(last, 0, row, old + i * m, m);
            }
        }
    }

    private void byteAt(String when) {
        int k = random.nextInt(row.length + 3) - 1;
        Checks.due(when + ": byteAt(" + k + ")", sums.byteAt(k), k >= 0 && k < row.length ? row[k] & 255 : -1);
    }

    private void part(String when) {
        int from = random.nextInt(row.length + 3) - 1;
        int to = random.nextInt(3) == 0 ? from + random.nextInt(40) : random.nextInt(row.length + 3) - 1;
        boolean is = 0 <= from && from <= to && to <= row.length;
        int start = is ? from : 0;
        int end = is ? to : 0;
        String part = "Of(" + from + ", " + to + ")";
        int some = random.nextInt();
        Checks.due(when + ": narrow" + part, sums.narrowOf(from, to, some), PlainSums.narrow(row, start, end, some));
        Checks.due(when + ": wide" + part, sums.wideOf(from, to, -some), PlainSums.wide(row, start, end, -some));
        Checks.due(when + ": poly" + part, sums.polyOf(from, to), PlainSums.poly(row, start, end));
    }

    private void masked(String when) {
        int x = random.nextInt();
        Checks.due(when + ": masked", sums.masked(x, false), PlainSums.masked(x));
        Checks.due(when + ": masked back", sums.masked(PlainSums.masked(x), true), x);
    }

    private void joinedAndCut(String when) {
        int a = random.nextInt();
        int b = random.nextInt();
        long n = random.nextLong() >>> random.nextInt(64);
        int ab = PlainSums.movedOn(a, n) ^ b;
        Checks.due(when + ": joined by " + n, sums.joined(a, b, n), ab);
        Checks.due(when + ": cut by " + n, sums.cut(ab, b, n), a);
    }

    private void forged(String when) {
        int sum = random.nextInt();
        byte[] more = Arrays.copyOf(row, row.length + 4);
        put(more, row.length, sums.forged(sum));
        Checks.due(when + ": forged", PlainSums.poly(more, 0, more.length), sum);
    }

    private void mended(String when) {
        int at = random.nextInt(row.length + 3) - 1;
        int sum = random.nextInt();
        int four = sums.mended(at, sum);
        if (at < 0 || at + 4 > row.length) {
            Checks.due(when + ": mended(" + at + ")", four, 0);
            return;
        }
        byte[] other = row.clone();
        put(other, at, four);
        Checks.due(when + ": mended(" + at + ")", PlainSums.poly(other, 0, other.length), sum);
    }

    private static void put(byte[] bytes, int at, int four) {
        for (int i = 0; i < 4; i++) {
            bytes[at + i] = (byte) (four >> (24 - 8 * i));
        }
    }
}
