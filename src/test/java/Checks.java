import java.util.Objects;

/** Counts checks, and tells each one that fails. */
final class Checks {
    private static final int MOST_TOLD = 20;
    private static int passed = 0;
    private static int failed = 0;
    private static String place = "";

    private Checks() {
    }

    /** Names the case that the next checks belong to. */
    static void enter(String name) {
        place = name + ": ";
    }

    static void equal(String what, Object want, Object got) {
        if (Objects.equals(want, got)) {
            passed++;
            return;
        }
        failed++;
        if (failed <= MOST_TOLD) {
            System.out.println(place + what + ": due is " + want + ", the answer was " + got);
        }
    }

    static boolean allPassed() {
        return failed == 0;
    }

    /** To be called at the end of a test's main method. */
    static void close(String test) {
        System.out.println(test + ": " + passed + " checks passed, " + failed + " checks failed");
        if (failed > 0) {
            System.exit(1);
        }
    }
}
