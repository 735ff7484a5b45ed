/** Counts what is not as it is due, and ends a test with exit code 1 if there was any such thing. */
final class Checks {
    private static final int MOST_PRINTED = 40;

    private int made = 0;
    private int wrong = 0;

    void same(String what, long got, long due) {
        made++;
        if (got != due) {
            tell(what + " answered " + got + ", due is " + due);
        }
    }

    void same(String what, boolean got, boolean due) {
        made++;
        if (got != due) {
            tell(what + " answered " + got + ", due is " + due);
        }
    }

    void same(String what, String got, String due) {
        made++;
        if (!got.equals(due)) {
            tell(what + " answered " + got + ", due is " + due);
        }
    }

    /** The call must throw that very exception, and by a throw statement: the machine's own text differs. */
    void noSuchLamp(String what, Runnable call) {
        made++;
        try {
            call.run();
            tell(what + " threw nothing, due is ArrayIndexOutOfBoundsException");
        } catch (RuntimeException e) {
            if (e.getClass() != ArrayIndexOutOfBoundsException.class) {
                tell(what + " threw " + e + ", due is ArrayIndexOutOfBoundsException");
            } else if (!"there is no such lamp".equals(e.getMessage())) {
                tell(what + " let the machine throw: " + e.getMessage());
            }
        }
    }

    private void tell(String fault) {
        wrong++;
        if (wrong <= MOST_PRINTED) {
            System.out.println(fault);
        }
    }

    void end() {
        System.out.println(wrong == 0 ? "all " + made + " answers are as due"
                : wrong + " of " + made + " answers are not as due");
        if (wrong != 0) {
            System.exit(1);
        }
    }
}
