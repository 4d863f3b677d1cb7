import java.util.Arrays;

/** Promise 3. */
public final class WriteTest {
    private static final int MOST = Tried.MOST_BYTES;
    private static final long EIGHT = 0xF1820300FF7F8009L;
    private static final byte[] ITS_BYTES = {(byte) 0xF1, (byte) 0x82, 3, 0, (byte) 0xFF, 0x7F, (byte) 0x80, 9};

    public static void main(String[] args) {
        Checks.sentence("Promise 3: Appends the n highest bytes of eight, the highest first: true.",
            WriteTest::appendsTheHighest);
        Checks.sentence("Promise 3: False, refused, when n is not 1 .. 8 (too small)", WriteTest::fewerThanOne);
        Checks.sentence("Promise 3: False, refused, when n is not 1 .. 8 (too large)", WriteTest::moreThanEight);
        Checks.sentence("Promise 3: False, refused, when .. there would be too many.", WriteTest::tooMany);
        Checks.sentence("Promise 3: False, refused (both at once)", WriteTest::wrongNumbersWhenFull);
        Checks.end();
    }

    private static void appendsTheHighest() {
        for (int n = 1; n <= 8; n++) {
            Tried tried = new Tried();
            tried.takes(EIGHT, n);
            Checks.due("the model's bytes of " + n, Arrays.equals(tried.row(), Arrays.copyOf(ITS_BYTES, n)), true);
            tried.holds("a write of " + n);
            tried.holdsEachByte("a write of " + n);
            tried.takes(EIGHT, n);
            tried.holds("two writes of " + n);
            tried.holdsEachByte("two writes of " + n);
        }
    }

    private static void fewerThanOne() {
        wrongNumbers(0, -1, -2, -8, Integer.MIN_VALUE, Integer.MIN_VALUE + 1);
    }

    private static void moreThanEight() {
        wrongNumbers(9, 10, 16, 64, 257, 65537, Integer.MAX_VALUE);
    }

    private static void wrongNumbers(int... numbers) {
        for (int size : new int[] {0, 2, 40}) {
            Tried tried = Tried.begun(Bytes.mixed(size, 3));
            for (int n : numbers) {
                tried.refuses(EIGHT, n);
            }
            tried.goesOn("after wrong numbers");
        }
    }

    private static void tooMany() {
        for (int n = 1; n <= 8; n++) {
            Tried fits = Tried.ofSize(MOST - n);
            fits.takes(EIGHT, n);
            fits.holds("the last " + n);
            fits.refuses(EIGHT, n);

            Tried oneTooMany = Tried.ofSize(MOST - n + 1);
            oneTooMany.refuses(EIGHT, n);
            if (n > 1) {
                oneTooMany.takes(EIGHT, n - 1);
                oneTooMany.holds("the " + (n - 1) + " that fit");
            }
        }
        Tried full = Tried.ofSize(MOST);
        full.refuses(0L, 8);
        full.begin(1, 2L);
        full.goesOn("begun after too many");
    }

    private static void wrongNumbersWhenFull() {
        Tried full = Tried.ofSize(MOST);
        for (int n : new int[] {0, -1, 9, Integer.MAX_VALUE, Integer.MIN_VALUE}) {
            full.refuses(EIGHT, n);
        }
    }
}
