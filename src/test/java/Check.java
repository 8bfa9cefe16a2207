/** Counts the answers that are not as due, and ends the run by it. */
final class Check {
    private static int wrong = 0;
    private static int looked = 0;

    private Check() {
    }

    static void due(String call, long want, long got) {
        looked++;
        if (want != got) {
            wrong++;
            System.out.println(call + " answered " + got + ", due is " + want);
        }
    }

    static void end(String test) {
        System.out.println(test + ": " + (looked - wrong) + " of " + looked + " answers as due");
        if (wrong > 0 || looked == 0) {
            System.exit(1);
        }
    }
}
