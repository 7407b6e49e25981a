/** Compares answers with those that are due, prints the wrong ones, and ends the program by them. */
final class Check {
    private static final long MOST_MILLISECONDS = 600_000;

    private int looked = 0;
    private int wrong = 0;

    Check() {
        Thread watch = new Thread(Check::endWhatDoesNotEnd);
        watch.setDaemon(true);
        watch.start();
    }

    private static void endWhatDoesNotEnd() {
        try {
            Thread.sleep(MOST_MILLISECONDS);
        } catch (InterruptedException interrupted) {
            return;
        }
        System.out.println("a call does not end");
        Runtime.getRuntime().halt(1);
    }

    void due(String what, long got, long want) {
        looked++;
        if (got != want) {
            wrong++;
            System.out.println(what + " answered " + got + ", due is " + want);
        }
    }

    void holds(String what, boolean itDoes) {
        due(what, itDoes ? 1 : 0, 1);
    }

    void end() {
        System.out.println(looked + " answers looked at, " + wrong + " wrong");
        if (wrong != 0) {
            System.exit(1);
        }
    }
}
