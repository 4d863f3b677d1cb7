import java.util.Random;

/** Runs of 512 calls of all kinds, each answer held against a plain model; the same runs each time. */
public final class LongRunsTest {
    // As many calls as the dearest kind below makes.
    private static final int MOST_AT_ONCE = 9;

    private final Tried tried = new Tried();
    private final Random random;

    private LongRunsTest(long start) {
        random = new Random(start);
    }

    public static void main(String[] args) {
        Checks.sentence("All promises: runs of up to 512 calls", LongRunsTest::runs);
        Checks.end();
    }

    private static void runs() {
        for (int run = 0; run < 100; run++) {
            LongRunsTest test = new LongRunsTest(run);
            while (test.tried.callsLeft() >= MOST_AT_ONCE) {
                test.call("run " + run + ", with " + test.tried.callsLeft() + " calls left");
            }
        }
    }

    private void call(String when) {
        switch (random.nextInt(22)) {
            case 0 -> begin();
            case 1, 2, 3, 4, 5, 6, 7 -> write();
            case 8, 9, 10 -> again();
            case 11 -> tried.holds(when);
            case 12, 13, 14 -> part();
            case 15 -> masked(when);
            case 16, 17 -> joinedAndCut(when);
            case 18 -> tried.forges(random.nextInt());
            default -> mended();
        }
    }

    private void begin() {
        // Seldom, so that rows grow long.
        if (random.nextInt(4) == 0) {
            tried.begin(random.nextInt(), random.nextLong());
        }
    }

    private void write() {
        long eight = random.nextLong();
        int n = random.nextInt(11) - 1;
        if (n >= 1 && n <= 8 && tried.size() + n <= Tried.MOST_BYTES) {
            tried.takes(eight, n);
        } else {
            tried.refuses(eight, n);
        }
    }

    private void again() {
        int m = random.nextInt(Math.min(tried.size(), 300) + 2);
        int n = random.nextInt(6) == 0 ? random.nextInt() : random.nextInt(5) - 1;
        if (m >= 1 && m <= tried.size() && n >= 0 && tried.size() + (long) m * n <= Tried.MOST_BYTES) {
            tried.takesAgain(m, n);
        } else {
            tried.refusesAgain(m, n);
        }
    }

    private void part() {
        int from = place();
        int to = random.nextInt(3) == 0 ? from + random.nextInt(40) : place();
        if (0 <= from && from <= to && to <= tried.size()) {
            tried.partIs(from, to, random.nextInt(), random.nextLong());
        } else {
            tried.partIsEmpty(from, to, random.nextInt(), random.nextLong());
        }
    }

    private void masked(String when) {
        int x = random.nextInt();
        Checks.due(when + ": masked", tried.call().masked(x, false), PlainSums.masked(x));
        Checks.due(when + ": masked back", tried.call().masked(PlainSums.masked(x), true), x);
    }

    private void joinedAndCut(String when) {
        int a = random.nextInt();
        int b = random.nextInt();
        long n = random.nextLong() >>> random.nextInt(64);
        int ab = PlainSums.movedOn(a, n) ^ b;
        Checks.due(when + ": joined by " + n, tried.call().joined(a, b, n), ab);
        Checks.due(when + ": cut by " + n, tried.call().cut(ab, b, n), a);
    }

    private void mended() {
        int at = place();
        if (at >= 0 && at <= tried.size() - 4) {
            tried.mends(at, random.nextInt());
        } else {
            tried.hasNoFourAt(at, random.nextInt());
        }
    }

    /** Now and then one just outside the row. */
    private int place() {
        return random.nextInt(tried.size() + 3) - 1;
    }
}
