/** Promises 16 and 17: four bytes that make the polynomial sum what it is to be. */
public final class ForgedTest {
    private static final int MOST = Tried.MOST_BYTES;
    private static final int LOW = Integer.MIN_VALUE;
    private static final int HIGH = Integer.MAX_VALUE;
    private static final int[] WANTED = {0, 1, -1, LOW, HIGH, 0x82F63B78, 0x12345678};

    public static void main(String[] args) {
        Checks.sentence("Promise 16: The four bytes, the first the highest, which appended to all bytes ..",
            ForgedTest::forged);
        Checks.sentence("Promise 16: appended to all bytes (none)", ForgedTest::forgedOfNone);
        Checks.sentence("Promise 16: would make their POLYNOMIAL SUM this (the row is full)",
            ForgedTest::forgedOfFull);
        Checks.sentence("Promise 16: would make (it appends nothing)", ForgedTest::forgedChangesNothing);
        Checks.sentence("Promise 17: The four bytes .. put in place of those at place at .. at + 3",
            ForgedTest::mended);
        Checks.sentence("Promise 17: at place at .. at + 3 (the first four, the last four, the only four)",
            ForgedTest::mendedAtTheEnds);
        Checks.sentence("Promise 17: would make the POLYNOMIAL SUM of all bytes this (what it is already)",
            ForgedTest::mendedToWhatItIs);
        Checks.sentence("Promise 17: 0 when there are no four there (at is below 0)", ForgedTest::noFourBelowZero);
        Checks.sentence("Promise 17: 0 when there are no four there (at + 3 is behind the row)",
            ForgedTest::noFourBehind);
        Checks.sentence("Promise 17: 0 when there are no four there (at + 3 is past an int's end)",
            ForgedTest::noFourPastAnInt);
        Checks.sentence("Promise 17: 0 when there are no four there (the row is shorter)", ForgedTest::noFourAtAll);
        Checks.sentence("Promise 17: 0 when there are no four there (a begin took them)", ForgedTest::noFourSinceBegin);
        Checks.sentence("Promise 17: of the full row", ForgedTest::mendedOfFull);
        Checks.sentence("Promise 17: would make (it changes nothing)", ForgedTest::mendedChangesNothing);
        Checks.end();
    }

    private static void forged() {
        for (int n : new int[] {1, 2, 3, 4, 5, 8, 17, 300}) {
            for (int sum : WANTED) {
                Tried tried = Tried.ofSize(n);
                tried.forges(sum);
                tried.takes((long) tried.call().forged(sum) << 32, 4);
                Checks.due("poly() with what was forged", tried.call().poly(), sum);
                tried.holds("with what was forged");
            }
        }
    }

    private static void forgedOfNone() {
        Tried tried = new Tried();
        for (int sum : WANTED) {
            tried.forges(sum);
        }
        Tried begun = Tried.ofSize(20);
        begun.begin(1, 2L);
        begun.forges(3);
        // Four bytes 0 behind none have this sum, and four bytes 255 the sum -1.
        Checks.due("forged of the sum of four 0", tried.call().forged(0x48674BC7), 0);
        Checks.due("forged(-1) of none", tried.call().forged(-1), -1);
    }

    private static void forgedOfFull() {
        for (int n : new int[] {MOST - 4, MOST - 3, MOST - 1, MOST}) {
            Tried tried = Tried.ofSize(n);
            for (int sum : WANTED) {
                tried.forges(sum);
            }
            tried.holds("after forging");
        }
        Tried fits = Tried.ofSize(MOST - 4);
        fits.takes((long) fits.call().forged(9) << 32, 4);
        Checks.due("poly() when just full", fits.call().poly(), 9);
    }

    private static void forgedChangesNothing() {
        Tried tried = Tried.begun(Bytes.mixed(30, 11));
        for (int sum : WANTED) {
            tried.forges(sum);
            tried.holds("after forging " + sum);
        }
        tried.goesOn("after forging");
    }

    private static void mended() {
        for (int n : new int[] {5, 7, 8, 9, 61}) {
            Tried tried = Tried.begun(Bytes.mixed(n, 11));
            for (int at = 0; at <= n - 4; at++) {
                tried.mends(at, WANTED[at % WANTED.length]);
                tried.mends(at, at * 0x9E3779B1 + n);
            }
            tried.holds("after mending");
        }
    }

    private static void mendedAtTheEnds() {
        for (int n : new int[] {4, 5, 16, 33, 1000}) {
            Tried tried = Tried.ofSize(n);
            for (int sum : WANTED) {
                tried.mends(0, sum);
                tried.mends(n - 4, sum);
            }
        }
    }

    private static void mendedToWhatItIs() {
        Tried tried = Tried.begun(Bytes.mixed(40, 11));
        for (int at = 0; at <= 36; at++) {
            Checks.due("mended(" + at + ", poly())", tried.call().mended(at, tried.call().poly()),
                Bytes.four(tried.row(), at));
        }
    }

    private static void noFourBelowZero() {
        Tried tried = Tried.begun(Bytes.mixed(40, 11));
        for (int at : new int[] {-1, -2, -3, -4, -5, -40, LOW, LOW + 1, LOW + 3, LOW + 4}) {
            tried.hasNoFourAt(at, 7);
        }
        tried.holds("after no four below 0");
        tried.mends(0, 7);
        tried.goesOn("after no four below 0");
    }

    private static void noFourBehind() {
        Tried tried = Tried.begun(Bytes.mixed(40, 11));
        for (int at : new int[] {37, 38, 39, 40, 41, MOST - 4, MOST - 3, MOST, MOST + 1}) {
            tried.hasNoFourAt(at, 7);
        }
        tried.holds("after no four behind");
        tried.mends(36, 7);
        tried.takes(-1L, 1);
        tried.mends(37, 7);
        tried.hasNoFourAt(38, 7);
        tried.goesOn("after no four behind");
    }

    private static void noFourPastAnInt() {
        for (int n : new int[] {0, 40}) {
            Tried tried = Tried.ofSize(n);
            for (int at : new int[] {HIGH - 4, HIGH - 3, HIGH - 2, HIGH - 1, HIGH}) {
                tried.hasNoFourAt(at, 7);
            }
            tried.holds("after no four past an int's end");
        }
    }

    private static void noFourAtAll() {
        for (int n = 0; n <= 3; n++) {
            Tried tried = Tried.ofSize(n);
            for (int at = -4; at <= 4; at++) {
                tried.hasNoFourAt(at, 7);
            }
            tried.holds("after no four at all");
            tried.goesOn("after no four at all");
        }
        Tried four = Tried.ofSize(4);
        four.mends(0, 7);
        four.hasNoFourAt(1, 7);
        four.hasNoFourAt(-1, 7);
    }

    private static void noFourSinceBegin() {
        Tried tried = Tried.begun(Bytes.mixed(40, 11));
        tried.begin(0, 0L);
        tried.hasNoFourAt(0, 7);
        tried.hasNoFourAt(20, 7);
        tried.takes(-1L, 3);
        tried.hasNoFourAt(0, 7);
        tried.takes(-1L, 1);
        tried.mends(0, 7);
        tried.hasNoFourAt(1, 7);
    }

    private static void mendedOfFull() {
        Tried full = Tried.ofSize(MOST);
        for (int at : new int[] {0, 1, 30000, MOST - 5, MOST - 4}) {
            full.mends(at, at * 77777 + 5);
        }
        for (int at : new int[] {MOST - 3, MOST - 1, MOST, -1}) {
            full.hasNoFourAt(at, 5);
        }
        full.holds("after mending the full row");
    }

    private static void mendedChangesNothing() {
        Tried tried = Tried.begun(Bytes.mixed(30, 11));
        for (int at = -1; at <= 30; at++) {
            tried.call().mended(at, 99);
        }
        tried.holds("after mending");
        tried.holdsEachByte("after mending");
        tried.goesOn("after mending");
    }
}
