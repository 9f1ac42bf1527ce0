/** What the tests have in common: answers that are due. */
final class Check {
    private static final long MOST_MILLISECONDS = 300_000;

    private static int answers = 0;
    private static int wrong = 0;

    static {
        Thread watch = new Thread(Check::endLate);
        watch.setDaemon(true);
        watch.start();
    }

    private Check() {
    }

    /** A call that never ends is a fault too. */
    private static void endLate() {
        try {
            Thread.sleep(MOST_MILLISECONDS);
        } catch (InterruptedException e) {
            return;
        }
        System.out.println("a call does not end");
        System.exit(1);
    }

    static void due(String call, long got, long want) {
        due(call, Long.toString(got), Long.toString(want));
    }

    static void due(String call, boolean got, boolean want) {
        due(call, Boolean.toString(got), Boolean.toString(want));
    }

    static void due(String call, String got, String want) {
        answers++;
        if (!got.equals(want)) {
            fault(call + " answered " + got + ", due is " + want);
        }
    }

    /** A throw statement of the class, and neither the machine nor the library. */
    static boolean isThrownByTheTill(Throwable e) {
        return e.getStackTrace().length > 0 && e.getStackTrace()[0].getClassName().startsWith("MuseumTill");
    }

    static void fault(String text) {
        wrong++;
        System.out.println(text);
    }

    static boolean isFaultless() {
        return wrong == 0;
    }

    static void end() {
        System.out.println(answers + " answers, " + wrong + " of them wrong");
        if (wrong != 0) {
            System.exit(1);
        }
    }
}
