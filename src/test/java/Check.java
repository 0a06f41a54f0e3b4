/** Counts the answers of one test program and tells those that are not due. */
final class Check {
    private static int passed = 0;
    private static int failed = 0;
    private static int sentences = 0;
    private static String sentence = "";
    private static int answersBefore = 0;

    private Check() {
    }

    /** What is checked from here on stands for this sentence of the document alone. */
    static void sentence(String words) {
        endSentence();
        sentence = words;
        sentences++;
        answersBefore = passed + failed;
    }

    // A sentence without an answer would look as if it had been tested.
    private static void endSentence() {
        if (!sentence.isEmpty() && passed + failed == answersBefore) {
            failed++;
            System.out.println("nothing was asked for: " + sentence);
        }
    }

    static void same(String what, long got, long due) {
        if (got == due) {
            passed++;
        } else {
            failed++;
            if (failed <= 20) {
                String where = sentence.isEmpty() ? "" : " [" + sentence + "]";
                System.out.println(what + " answered " + got + ", due is " + due + where);
            }
        }
    }

    static void holds(String what, boolean isSo) {
        same(what, isSo ? 1 : 0, 1);
    }

    static boolean anyFailed() {
        return failed > 0;
    }

    static void end() {
        endSentence();
        String of = sentences > 0 ? " for " + sentences + " sentences" : "";
        System.out.println("answers" + of + ": " + passed + " passed, " + failed + " failed");
        if (failed > 0) {
            System.exit(1);
        }
    }
}
