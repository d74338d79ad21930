/** Prints each answer that is not the one that is due, and ends with exit code 1 if there was one. */
final class Due {
    private static int wrong = 0;

    private Due() {
    }

    static void due(int promise, String what, long got, long want) {
        if (got != want) {
            wrong++;
            System.out.println("promise " + promise + ": " + what + " answered " + got + ", due is " + want);
        }
    }

    static void due(String what, Object got, Object want) {
        if (!got.equals(want)) {
            wrong++;
            System.out.println(what + " is " + got + ", due is " + want);
        }
    }

    static void end(String fine) {
        System.out.println(wrong == 0 ? fine : wrong + " answers are not as due");
        if (wrong != 0) {
            System.exit(1);
        }
    }
}
