/** Counts the answers that are not as due, prints them, and ends a test. */
final class Checks {
    private static final long MOST_SECONDS = 120;

    private static int made = 0;
    private static int wrong = 0;
    private static volatile String sentence = "";

    static {
        watch();
    }

    private Checks() {
    }

    /** Tries one sentence of the document; a call that throws breaks it too, and the next sentence is still tried. */
    static void sentence(String text, Runnable test) {
        int madeBefore = made;
        int wrongBefore = wrong;
        sentence = text;
        try {
            test.run();
        } catch (RuntimeException thrown) {
            thrown.printStackTrace(System.out);
            due("no call threw", false, true);
        }
        if (made == madeBefore) {
            due("some answer was looked at", false, true);
        }
        System.out.println((wrong == wrongBefore ? "holds: " : "BROKEN: ") + text);
        sentence = "";
    }

    static void due(String what, long got, long want) {
        made++;
        if (got != want) {
            wrong++;
            System.out.println(sentence + " | " + what + " answered " + got + ", due is " + want);
        }
    }

    static void due(String what, boolean got, boolean want) {
        due(what, got ? 1L : 0L, want ? 1L : 0L);
    }

    static void end() {
        System.out.println(made + " answers, " + wrong + " not as due");
        if (wrong != 0 || made == 0) {
            System.exit(1);
        }
    }

    /** A call that does not end must fail the test too, not hold it up for ever. */
    private static void watch() {
        Thread watcher = new Thread(() -> {
            try {
                Thread.sleep(MOST_SECONDS * 1000);
            } catch (InterruptedException interrupted) {
                return;
            }
            System.out.println("BROKEN: " + sentence + " | no end after " + MOST_SECONDS + " seconds");
            Runtime.getRuntime().halt(1);
        });
        watcher.setDaemon(true);
        watcher.start();
    }
}
