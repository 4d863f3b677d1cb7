import java.util.Arrays;

/** Promise 4. */
public final class AgainTest {
    private static final int MOST = Tried.MOST_BYTES;
    private static final int LOW = Integer.MIN_VALUE;
    private static final int HIGH = Integer.MAX_VALUE;

    public static void main(String[] args) {
        Checks.sentence("Promise 4: Appends n times the last m bytes.", AgainTest::appendsTheLast);
        Checks.sentence("Promise 4: Appends n times (n is 0)", AgainTest::noTimes);
        Checks.sentence("Promise 4: False, refused, when m is not 1 .. how many there are (too small)",
            AgainTest::fewerThanOne);
        Checks.sentence("Promise 4: False, refused, when m is not 1 .. how many there are (too large)",
            AgainTest::moreThanThereAre);
        Checks.sentence("Promise 4: False, refused, when m is not 1 .. how many there are (there are none)",
            AgainTest::ofNone);
        Checks.sentence("Promise 4: False, refused, when .. n is below 0", AgainTest::timesBelowZero);
        Checks.sentence("Promise 4: False, refused, when .. there would be too many.", AgainTest::tooMany);
        Checks.sentence("Promise 4: False, refused, when .. there would be too many (more than an int counts)",
            AgainTest::tooManyForAnInt);
        Checks.sentence("Promise 4: False, refused, when .. there would be too many (the row is full)",
            AgainTest::ofTheFullRow);
        Checks.end();
    }

    private static void appendsTheLast() {
        appends("abc", 1, 1, "abcc");
        appends("abc", 1, 4, "abccccc");
        appends("abc", 2, 1, "abcbc");
        appends("abc", 2, 3, "abcbcbcbc");
        appends("abc", 3, 1, "abcabc");
        appends("abc", 3, 2, "abcabcabc");
        appends("z", 1, 1, "zz");
        appends("abcdefgh", 5, 2, "abcdefghdefghdefgh");
        Tried high = Tried.holding(new byte[] {-1, -128, 0});
        high.takesAgain(3, 2);
        high.holds("high bytes again");
        high.holdsEachByte("high bytes again");
    }

    private static void appends(String bytes, int m, int n, String due) {
        Tried tried = Tried.holding(Bytes.ascii(bytes));
        tried.takesAgain(m, n);
        Checks.due("the model's bytes are " + due, Arrays.equals(tried.row(), Bytes.ascii(due)), true);
        tried.holds(due);
        tried.holdsEachByte(due);
        tried.goesOn(due);
    }

    private static void noTimes() {
        Tried tried = Tried.holding(Bytes.ascii("abc"));
        for (int m = 1; m <= 3; m++) {
            tried.takesAgain(m, 0);
            tried.holds("again(" + m + ", 0)");
        }
        tried.refusesAgain(0, 0);
        tried.refusesAgain(-1, 0);
        tried.refusesAgain(4, 0);
        tried.goesOn("again no times");
        Checks.due("the model's bytes", Arrays.equals(tried.row(),
            Bytes.joined(new byte[] {'a', 'b', 'c', (byte) 0x9C}, new byte[] {'a', 'b', 'c', (byte) 0x9C})), true);
    }

    private static void fewerThanOne() {
        Tried tried = Tried.begun(Bytes.ascii("xyz"));
        for (int m : new int[] {0, -1, -3, LOW, LOW + 1}) {
            for (int n : new int[] {0, 1, 2, HIGH}) {
                tried.refusesAgain(m, n);
            }
        }
        tried.goesOn("after too small m");
    }

    private static void moreThanThereAre() {
        Tried tried = Tried.begun(Bytes.ascii("xyz"));
        for (int m : new int[] {4, 5, MOST, MOST + 1, HIGH}) {
            for (int n : new int[] {0, 1, 2, HIGH}) {
                tried.refusesAgain(m, n);
            }
        }
        tried.takesAgain(3, 1);
        tried.holds("all three again");
        tried.refusesAgain(7, 1);
        tried.takesAgain(6, 1);
        tried.goesOn("after too large m");
    }

    private static void ofNone() {
        Tried never = new Tried();
        Tried begun = Tried.begun(Bytes.ascii("gone now"));
        begun.begin(5, 6L);
        for (int m : new int[] {1, 0, -1, 8, HIGH, LOW}) {
            for (int n : new int[] {0, 1, -1}) {
                never.refusesAgain(m, n);
                begun.refusesAgain(m, n);
            }
        }
        never.goesOn("after again of none");
        begun.goesOn("after again of none since begin");
    }

    private static void timesBelowZero() {
        Tried tried = Tried.begun(Bytes.ascii("xyz"));
        for (int n : new int[] {-1, -2, -65536, LOW, LOW + 1}) {
            for (int m : new int[] {1, 2, 3}) {
                tried.refusesAgain(m, n);
            }
        }
        tried.refusesAgain(-2, -2);
        tried.refusesAgain(LOW, LOW);
        tried.refusesAgain(4, -1);
        tried.goesOn("after n below 0");
    }

    private static void tooMany() {
        // The size, m, and the highest n that fits.
        int[][] rows = {
            {1, 1, 65535}, {8, 8, 8191}, {3, 3, 21844}, {3, 2, 32766}, {100, 7, 9348}, {32768, 32768, 1},
            {32769, 32767, 1}, {32769, 32768, 0}, {40000, 25536, 1}, {40000, 25537, 0}, {65535, 1, 1}, {65535, 2, 0},
            {65535, 65535, 0}};
        for (int[] row : rows) {
            Tried tried = Tried.ofSize(row[0]);
            tried.refusesAgain(row[1], row[2] + 1);
            tried.takesAgain(row[1], row[2]);
            tried.holds("as many as fit");
            int room = MOST - tried.size();
            if (room < 8) {
                tried.refuses(0L, room + 1);
            }
            tried.begin(9, 10L);
            tried.goesOn("begun after too many");
        }
    }

    private static void tooManyForAnInt() {
        // m, n, and what m * n would be as an int; at the end those whose sum with the six is past an int's end.
        int[][] calls = {
            {4, 1 << 30, 0}, {6, 715827883, 2}, {5, 858993460, 4}, {3, 1431655766, 2}, {3, 1431655765, -1},
            {2, 1 << 30, LOW}, {2, HIGH, -2}, {6, HIGH, -6}, {1, HIGH - 6, HIGH - 6}, {1, HIGH - 5, HIGH - 5},
            {1, HIGH, HIGH}};
        Tried tried = Tried.begun(Bytes.ascii("uvwxyz"));
        for (int[] call : calls) {
            Checks.due("the test's own product", call[0] * call[1], call[2]);
            tried.refusesAgain(call[0], call[1]);
        }
        tried.goesOn("after products beyond an int");
        Tried half = Tried.ofSize(32768);
        half.refusesAgain(32768, 1 << 17);
        half.refusesAgain(32768, (1 << 17) + 1);
        half.takesAgain(32768, 1);
        half.holds("the one time that fits");
    }

    private static void ofTheFullRow() {
        Tried full = Tried.ofSize(MOST);
        full.refusesAgain(1, 1);
        full.refusesAgain(MOST, 1);
        full.refusesAgain(MOST, MOST);
        full.refusesAgain(MOST + 1, 0);
        full.refusesAgain(0, 0);
        full.refusesAgain(1, -1);
        full.takesAgain(1, 0);
        full.takesAgain(MOST, 0);
        full.holds("a full row again no times");
    }
}
