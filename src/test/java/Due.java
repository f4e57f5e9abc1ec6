/** Compares answers with those that are due, prints each that differs, and ends the test. */
final class Due {
    interface Call {
        long answer();
    }

    private final String test;
    private int checked = 0;
    private int wrong = 0;

    Due(String test) {
        this.test = test;
    }

    void same(String what, long got, long want) {
        checked++;
        if (got != want) {
            wrong++;
            System.out.println(test + ": " + what + " answered " + got + ", due is " + want);
        }
    }

    void same(String what, String got, String want) {
        checked++;
        if (!got.equals(want)) {
            wrong++;
            System.out.println(test + ": " + what + " answered " + got + ", due is " + want);
        }
    }

    void holds(String what, boolean got) {
        same(what, got ? 1 : 0, 1);
    }

    void fails(String what, boolean got) {
        same(what, got ? 1 : 0, 0);
    }

    void illegalArgument(String what, Call call) {
        throwing(what, call, IllegalArgumentException.class);
    }

    void illegalState(String what, Call call) {
        throwing(what, call, IllegalStateException.class);
    }

    void taken(String what, Call call) {
        checked++;
        try {
            call.answer();
        } catch (RuntimeException e) {
            wrong++;
            System.out.println(test + ": " + what + " answered " + e.getClass().getName() + ", due is no exception");
        }
    }

    private void throwing(String what, Call call, Class<?> want) {
        checked++;
        String got;
        try {
            got = "" + call.answer();
        } catch (RuntimeException e) {
            if (e.getClass() == want) {
                return;
            }
            got = e.getClass().getName();
        }
        wrong++;
        System.out.println(test + ": " + what + " answered " + got + ", due is " + want.getName());
    }

    void end() {
        System.out.println(test + ": " + checked + " answers, " + wrong + " not as due");
        if (checked == 0 || wrong != 0) {
            System.exit(1);
        }
    }
}
