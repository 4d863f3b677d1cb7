/** The row of bytes: promises 1, 2, 5 and 6, and what the document's terms say of the bytes. */
public final class RowTest {
    private static final int MOST = Tried.MOST_BYTES;

    public static void main(String[] args) {
        Checks.sentence("Terms: THE BYTES are .. none at first.", RowTest::noneAtFirst);
        Checks.sentence("Terms: THE BYTES are a row of at most 65,536", RowTest::atMost65536);
        Checks.sentence("What it is: at most 512 calls", RowTest::theLastPromisedCall);
        Checks.sentence("Promise 1: No bytes, both seeds 0.", RowTest::bothSeedsAreZero);
        Checks.sentence("Promise 2: There are no bytes", RowTest::beginLeavesNoBytes);
        Checks.sentence("Promise 2: There are no bytes (of a full row, of none)", RowTest::beginOfFullAndOfNone);
        Checks.sentence("Promise 2: the seeds are these.", RowTest::theSeedsAreThese);
        Checks.sentence("Promise 5: How many bytes there are.", RowTest::howManyThereAre);
        Checks.sentence("Promise 6: Byte k, 0 .. 255", RowTest::eachByteThatCanBe);
        Checks.sentence("Promise 6: -1 when there is none.", RowTest::noByteThere);
        Checks.end();
    }

    private static void noneAtFirst() {
        Tried tried = new Tried();
        tried.holds("a new object");
        tried.partIsEmpty(0, 1, 0, 0L);
        tried.hasNoFourAt(0, 7);
        tried.goesOn("a new object");
    }

    private static void atMost65536() {
        Tried full = Tried.ofSize(MOST - 8);
        full.takes(0x0102030405060708L, 8);
        full.holds("65,536 bytes");
        Checks.due("byteAt(65535)", full.call().byteAt(65535), 8);
        full.refuses(0x0900000000000000L, 1);
        full.refusesAgain(1, 1);

        Tried byAgain = Tried.holding(Bytes.ascii("a"));
        byAgain.takesAgain(1, MOST - 1);
        byAgain.holds("65,536 bytes by again");
        byAgain.refuses(0x6200000000000000L, 1);
        byAgain.refusesAgain(1, 1);
    }

    private static void theLastPromisedCall() {
        Tried tried = new Tried();
        for (long call = 1; call <= Tried.MOST_CALLS - 8; call++) {
            tried.takes(call * 0x9E3779B97F4A7C15L, 8);
        }
        tried.holds("calls 505 to 512");
        Checks.due("calls left", tried.callsLeft(), 0);
    }

    private static void bothSeedsAreZero() {
        Checks.due("narrow() of none", new StreamSums().narrow(), 0x02CC5D05);
        Checks.due("wide() of none", new StreamSums().wide(), 0xEF46DB3751D8E999L);
        Checks.due("poly() of none", new StreamSums().poly(), 0);
        Tried tried = new Tried();
        tried.refuses(1L, 0);
        tried.refusesAgain(1, 1);
        tried.takesAll(Bytes.mixed(70, 1));
        tried.holds("70 bytes with the first seeds");
    }

    private static void beginLeavesNoBytes() {
        Tried tried = Tried.holding(Bytes.ascii("some bytes to be forgotten, more than thirty-two of them"));
        tried.begin(-7, 8L);
        tried.holds("begun");
        tried.partIsEmpty(0, 1, 1, 2L);
        tried.partIsEmpty(0, 56, 1, 2L);
        tried.hasNoFourAt(0, 7);
        tried.forges(7);
        tried.refusesAgain(1, 1);
        tried.takesAll(Bytes.ascii("new"));
        tried.holds("three bytes written anew");
        tried.partIsEmpty(0, 4, 1, 2L);
        tried.hasNoFourAt(0, 7);
        tried.refusesAgain(4, 1);
        tried.goesOn("begun");
    }

    private static void beginOfFullAndOfNone() {
        Tried tried = Tried.ofSize(MOST);
        tried.begin(1, 2L);
        tried.holds("a full row begun");
        tried.goesOn("a full row begun");
        tried.takesAgain(2, MOST / 2 - 1);
        tried.holds("full once more");
        tried.begin(3, 4L);
        tried.begin(5, 6L);
        tried.holds("begun twice");
        tried.goesOn("begun twice");
    }

    private static void theSeedsAreThese() {
        int[] seeds = {0, 1, -1, Integer.MAX_VALUE, Integer.MIN_VALUE, 1, 0};
        long[] wideSeeds = {-1L, 0L, 1L, Long.MIN_VALUE, Long.MAX_VALUE, 1L << 32, 0L};
        Tried tried = new Tried();
        for (int i = 0; i < seeds.length; i++) {
            tried.begin(seeds[i], wideSeeds[i]);
            tried.holds("seeds " + seeds[i] + " and " + wideSeeds[i]);
            tried.takesAll(Bytes.mixed(40, i));
            tried.holds("40 bytes, seeds " + seeds[i] + " and " + wideSeeds[i]);
            tried.refuses(0L, 9);
            tried.refusesAgain(41, 0);
        }
    }

    private static void howManyThereAre() {
        Tried tried = new Tried();
        int due = 0;
        Checks.due("size() at first", tried.call().size(), due);
        for (int n = 1; n <= 8; n++) {
            tried.takes(-1L, n);
            due += n;
            Checks.due("size() after a write of " + n, tried.call().size(), due);
        }
        tried.call().write(-1L, 0);
        tried.call().write(-1L, 9);
        tried.call().again(due + 1, 1);
        tried.call().again(1, -1);
        tried.call().again(1, MOST);
        Checks.due("size() after refused calls", tried.call().size(), due);
        tried.call().again(due, 0);
        Checks.due("size() after again(36, 0)", tried.call().size(), due);
        tried.call().again(1, MOST - due);
        Checks.due("size() when full", tried.call().size(), MOST);
        tried.call().write(-1L, 1);
        Checks.due("size() when full and one refused", tried.call().size(), MOST);
        tried.call().begin(0, 0L);
        Checks.due("size() after begin", tried.call().size(), 0);
    }

    private static void eachByteThatCanBe() {
        byte[] all = new byte[256];
        for (int k = 0; k < 256; k++) {
            all[k] = (byte) k;
        }
        Tried tried = Tried.holding(all);
        for (int k = 0; k < 256; k++) {
            Checks.due("byteAt(" + k + ")", tried.call().byteAt(k), k);
        }
    }

    private static void noByteThere() {
        int[] never = {-1, -2, -65536, Integer.MIN_VALUE, MOST, MOST + 1, Integer.MAX_VALUE};
        for (int size : new int[] {0, 1, 8, MOST - 1, MOST}) {
            Tried tried = Tried.ofSize(size);
            for (int k : never) {
                Checks.due("byteAt(" + k + ") of " + size, tried.call().byteAt(k), -1);
            }
            Checks.due("byteAt(" + size + ") of " + size, tried.call().byteAt(size), -1);
            tried.holds("after bytes that are not there");
        }
        Tried begun = Tried.holding(Bytes.mixed(16, 2));
        begun.begin(0, 0L);
        Checks.due("byteAt(0) after begin", begun.call().byteAt(0), -1);
        begun.takes(-1L, 2);
        Checks.due("byteAt(1) after begin and two bytes", begun.call().byteAt(1), 255);
        Checks.due("byteAt(2) after begin and two bytes", begun.call().byteAt(2), -1);
    }
}
