/** Counts the answers that are not as due, and ends a test by them. */
final class Checks {
    private final String test;
    private int made = 0;
    private int wrong = 0;

    Checks(String test) {
        this.test = test;
    }

    void due(String call, long want, long got) {
        made++;
        if (got != want) {
            wrong++;
            System.out.println(test + ": " + call + " answered " + got + ", due is " + want);
        }
    }

    void holds(String claim, boolean so) {
        made++;
        if (!so) {
            wrong++;
            System.out.println(test + ": not so: " + claim);
        }
    }

    int wrong() {
        return wrong;
    }

    void end() {
        System.out.println(test + ": " + made + " checks, " + wrong + " wrong");
        if (wrong != 0 || made == 0) {
            System.exit(1);
        }
    }
}
