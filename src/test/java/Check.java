/** Compares answers with those that are due, and counts the wrong ones. */
final class Check {
    private static int wrong = 0;
    private static String title = "";

    private Check() {
    }

    static void title(String text) {
        title = text;
    }

    static void due(String call, long got, long want) {
        if (got != want) {
            wrong++;
            System.out.println(title + ": " + call + " answered " + got + ", due is " + want);
        }
    }

    static void holds(String claim, boolean holds) {
        due(claim, holds ? 1 : 0, 1);
    }

    static void end() {
        if (wrong != 0) {
            System.out.println(wrong + " answers are not as due");
            System.exit(1);
        }
    }
}
