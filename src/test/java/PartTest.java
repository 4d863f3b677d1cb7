/** Promises 10 to 12, and what the document's terms say of a part. */
public final class PartTest {
    private static final int MOST = Tried.MOST_BYTES;
    private static final int LOW = Integer.MIN_VALUE;
    private static final int HIGH = Integer.MAX_VALUE;

    public static void main(String[] args) {
        Checks.sentence("Terms: A PART .. from place from (the first has 0) to place to - 1", PartTest::eachPart);
        Checks.sentence("Terms: A PART (one byte, the first or the last; all bytes)", PartTest::partsAtTheEnds);
        Checks.sentence("Terms: A PART (from = to)", PartTest::fromIsTo);
        Checks.sentence("Terms: when it is not so that 0 <= from .., the part is empty", PartTest::fromBelowZero);
        Checks.sentence("Terms: when it is not so that .. from <= to .., the part is empty", PartTest::fromAboveTo);
        Checks.sentence("Terms: when it is not so that .. to <= how many there are, the part is empty",
            PartTest::toAboveTheRow);
        Checks.sentence("Terms: the part is empty (of no bytes, of bytes that a begin took)", PartTest::ofNone);
        Checks.sentence("Terms: A PART (of the full row)", PartTest::ofTheFullRow);
        Checks.sentence("Promises 10 and 11: with a seed (not the object's)", PartTest::withTheCallsSeed);
        Checks.sentence("Promises 10 to 12: the sum of the empty part", PartTest::sumsOfTheEmptyPart);
        Checks.sentence("Promises 10 to 12: of a part (shorter and longer than the lanes)", PartTest::aroundTheLanes);
        Checks.end();
    }

    private static void eachPart() {
        byte[] bytes = Bytes.mixed(70, 5);
        for (int from = 0; from <= 70; from++) {
            Tried tried = Tried.holding(bytes);
            for (int to = from; to <= 70; to++) {
                tried.partIs(from, to, from - to, 1L << (to % 64));
            }
            tried.holds("after parts");
        }
    }

    private static void partsAtTheEnds() {
        for (int n : new int[] {1, 2, 16, 33, MOST}) {
            Tried tried = Tried.ofSize(n);
            tried.partIs(0, 1, 1, 2L);
            tried.partIs(n - 1, n, 1, 2L);
            tried.partIs(0, n - 1, 1, 2L);
            tried.partIs(1, n, 1, 2L);
            tried.partIs(0, n, 0, 0L);
            Checks.due("narrowOf all of " + n, tried.call().narrowOf(0, n, 0), tried.call().narrow());
            Checks.due("wideOf all of " + n, tried.call().wideOf(0, n, 0L), tried.call().wide());
            Checks.due("polyOf all of " + n, tried.call().polyOf(0, n), tried.call().poly());
        }
    }

    private static void fromIsTo() {
        Tried tried = Tried.holding(Bytes.mixed(40, 6));
        for (int k : new int[] {0, 1, 7, 20, 39, 40}) {
            tried.partIsEmpty(k, k, k, -k);
        }
        Checks.due("polyOf(20, 20)", tried.call().polyOf(20, 20), 0);
        tried.holds("after parts of no bytes");
    }

    private static void fromBelowZero() {
        Tried tried = Tried.begun(Bytes.mixed(40, 7));
        for (int from : new int[] {-1, -2, -16, -32, LOW, LOW + 1}) {
            for (int to : new int[] {0, 1, 16, 40, from}) {
                tried.partIsEmpty(from, to, 3, 4L);
            }
        }
        tried.holds("after parts from below 0");
        tried.goesOn("after parts from below 0");
    }

    private static void fromAboveTo() {
        Tried tried = Tried.begun(Bytes.mixed(40, 7));
        int[][] parts = {{1, 0}, {20, 19}, {40, 39}, {40, 0}, {33, 1}, {17, 1}, {0, -1}, {40, LOW}, {0, LOW}, {5, -5}};
        for (int[] part : parts) {
            tried.partIsEmpty(part[0], part[1], 3, 4L);
        }
        tried.holds("after parts that go back");
        tried.goesOn("after parts that go back");
    }

    private static void toAboveTheRow() {
        Tried tried = Tried.begun(Bytes.mixed(40, 7));
        for (int to : new int[] {41, 42, 48, 64, MOST, MOST + 1, HIGH}) {
            for (int from : new int[] {0, 1, 24, 39, 40, to}) {
                tried.partIsEmpty(from, to, 3, 4L);
            }
        }
        // Here to - from is no int that could be a length.
        tried.partIsEmpty(LOW, HIGH, 3, 4L);
        tried.partIsEmpty(HIGH, LOW, 3, 4L);
        tried.partIsEmpty(-1, HIGH, 3, 4L);
        tried.holds("after parts behind the row");
        tried.goesOn("after parts behind the row");
    }

    private static void ofNone() {
        Tried none = new Tried();
        Tried gone = Tried.begun(Bytes.mixed(40, 7));
        gone.begin(5, 6L);
        for (int[] part : new int[][] {{0, 0}, {0, 1}, {0, 40}, {-1, 0}, {1, 1}, {40, 40}, {8, 24}, {1, 0}}) {
            none.partIsEmpty(part[0], part[1], 3, 4L);
            gone.partIsEmpty(part[0], part[1], 3, 4L);
        }
        gone.takes(-1L, 8);
        gone.partIs(0, 8, 3, 4L);
        gone.partIsEmpty(0, 9, 3, 4L);
        gone.partIsEmpty(8, 9, 3, 4L);
        gone.partIsEmpty(0, 40, 3, 4L);
    }

    private static void ofTheFullRow() {
        Tried full = Tried.ofSize(MOST);
        int[][] parts = {
            {0, MOST}, {1, MOST}, {0, MOST - 1}, {MOST - 1, MOST}, {MOST - 3, MOST}, {MOST - 4, MOST}, {MOST - 7, MOST},
            {MOST - 8, MOST}, {MOST - 16, MOST}, {MOST - 31, MOST}, {MOST - 32, MOST}, {4095, 40001}};
        for (int[] part : parts) {
            full.partIs(part[0], part[1], 7, -8L);
        }
        full.partIsEmpty(MOST, MOST, 7, -8L);
        full.partIsEmpty(0, MOST + 1, 7, -8L);
        full.partIsEmpty(MOST, MOST + 1, 7, -8L);
        full.partIsEmpty(MOST + 1, MOST + 1, 7, -8L);
        full.partIsEmpty(-1, MOST, 7, -8L);
        full.holds("after parts of the full row");
    }

    private static void withTheCallsSeed() {
        Tried tried = Tried.begun(Bytes.mixed(50, 7));
        for (int seed : new int[] {0, 1, -1, -13, HIGH, LOW}) {
            for (long wideSeed : new long[] {0L, -1L, -14L, Long.MAX_VALUE, Long.MIN_VALUE}) {
                tried.partIs(2, 9, seed, wideSeed);
                tried.partIs(1, 50, seed, wideSeed);
                tried.partIsEmpty(1, 51, seed, wideSeed);
            }
        }
        tried.holds("the object's seeds stay");
    }

    private static void sumsOfTheEmptyPart() {
        Tried tried = Tried.begun(Bytes.mixed(20, 7));
        for (int[] part : new int[][] {{7, 7}, {0, 21}, {-1, 5}, {5, 3}}) {
            String text = "(" + part[0] + ", " + part[1] + ")";
            Checks.due("narrowOf" + text, tried.call().narrowOf(part[0], part[1], 0), 0x02CC5D05);
            Checks.due("narrowOf" + text + " with 1", tried.call().narrowOf(part[0], part[1], 1), 187479954);
            Checks.due("wideOf" + text, tried.call().wideOf(part[0], part[1], 0L), 0xEF46DB3751D8E999L);
            Checks.due("wideOf" + text + " with 1", tried.call().wideOf(part[0], part[1], 1L), -3049013831022690741L);
            Checks.due("polyOf" + text, tried.call().polyOf(part[0], part[1]), 0);
        }
    }

    private static void aroundTheLanes() {
        Tried tried = Tried.ofSize(200);
        for (int from : new int[] {0, 1, 3, 15, 16, 31, 32, 101}) {
            for (int n : new int[] {15, 16, 17, 31, 32, 33, 63, 64, 65}) {
                tried.partIs(from, from + n, -n, n);
            }
        }
    }
}
