/** Counts the checks of one test program and tells which failed. */
final class Check {
    private static int passed = 0;
    private static int failed = 0;
    private static String heading = "";

    private Check() {
    }

    /** The sentence of the document that the next checks are about. */
    static void about(String sentence) {
        heading = "\"" + sentence + "\" ";
    }

    static void due(String what, long got, long want) {
        if (got == want) {
            passed++;
        } else {
            fail(heading + what + " answered " + got + ", due is " + want);
        }
    }

    static void due(String what, String got, String want) {
        if (got.equals(want)) {
            passed++;
        } else {
            fail(heading + what + " answered \"" + got + "\", due is \"" + want + "\"");
        }
    }

    static void fail(String message) {
        failed++;
        System.out.println("  " + message);
    }

    static boolean hasFailed() {
        return failed > 0;
    }

    /** Closes a test program: tells the counts and ends with exit code 1 if a check failed. */
    static void finish(String program) {
        System.out.println("  " + program + ": " + passed + " checks right, " + failed + " wrong");
        if (failed > 0) {
            System.exit(1);
        }
    }
}
