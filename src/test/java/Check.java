/** Counts the answers of one test program and tells those that are not due. */
final class Check {
    private static int passed = 0;
    private static int failed = 0;

    private Check() {
    }

    static void same(String what, long got, long due) {
        if (got == due) {
            passed++;
        } else {
            failed++;
            if (failed <= 20) {
                System.out.println(what + " answered " + got + ", due is " + due);
            }
        }
    }

    static void holds(String what, boolean isSo) {
        same(what, isSo ? 1 : 0, 1);
    }

    static boolean anyFailed() {
        return failed > 0;
    }

    static void end() {
        System.out.println("answers: " + passed + " passed, " + failed + " failed");
        if (failed > 0) {
            System.exit(1);
        }
    }
}
