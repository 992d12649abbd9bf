/** Counts and tells the answers that are not the ones that are due. */
final class Due {
    private static int answers = 0;
    private static int wrong = 0;

    private Due() {
    }

    static void due(String call, long got, long want) {
        answers++;
        if (got != want) {
            wrong++;
            System.out.println(call + " answered " + got + ", due is " + want);
        }
    }

    static boolean isAllRight() {
        return wrong == 0;
    }

    /** Ends the test's run. */
    static void end() {
        System.out.println(answers + " answers, " + wrong + " not as due");
        System.exit(wrong == 0 && answers > 0 ? 0 : 1);
    }
}
