/** Counts answers that are not as due, prints them, and ends the test by its exit code. */
final class Checks {
    private int wrong = 0;
    private int made = 0;

    void due(String what, long got, long want) {
        made++;
        if (got != want) {
            wrong++;
            System.out.println(what + " answered " + got + ", due is " + want);
        }
    }

    void finish() {
        System.out.println(made + " answers looked at, " + wrong + " not as due");
        if (wrong != 0 || made == 0) {
            System.exit(1);
        }
    }

    boolean tooManyWrong() {
        return wrong > 20;
    }
}
