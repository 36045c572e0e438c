/** Counts what is not as it is due, and says so. */
final class Checks {
    private int made = 0;
    private int wrong = 0;

    void due(String what, long want, long got) {
        made++;
        if (got != want) {
            fail(what + " answered " + got + ", due is " + want);
        }
    }

    void due(String what, boolean want, boolean got) {
        due(what, want ? 1 : 0, got ? 1 : 0);
    }

    void due(String what, String want, String got) {
        made++;
        if (!want.equals(got)) {
            fail(what + " answered\n" + got + "\ndue is\n" + want);
        }
    }

    void fail(String what) {
        wrong++;
        System.out.println(what);
    }

    int made() {
        return made;
    }

    int wrong() {
        return wrong;
    }

    void end() {
        System.out.println(made + " checks, " + wrong + " wrong");
        if (wrong != 0 || made == 0) {
            System.exit(1);
        }
    }
}
