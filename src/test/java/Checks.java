/** Counts and prints the answers that are not the due ones. */
final class Checks {
    private int done;
    private int wrong;

    /** A call that is expected to throw. */
    interface Call {
        Object make();
    }

    void due(String what, Object due, Object got) {
        done++;
        if (!due.equals(got)) {
            wrong++;
            System.out.println(what + ": answered " + got + ", due is " + due);
        }
    }

    /** The class has to be the very one: a machine's exception is often of a class below it. */
    void dueThrow(String what, Class<? extends RuntimeException> due, Call call) {
        done++;
        String got;
        try {
            got = "answered " + call.make();
        } catch (RuntimeException thrown) {
            if (thrown.getClass() == due) {
                return;
            }
            got = "threw " + thrown;
        }
        wrong++;
        System.out.println(what + ": " + got + ", due is " + due.getSimpleName());
    }

    /** A refused call also has to keep the reason and the detail. */
    void dueRefusal(String what, int reason, int detail, ScrollChecks checks, Call call) {
        dueThrow(what, UnsupportedOperationException.class, call);
        due(what + ", reason", reason, checks.refusal(false));
        due(what + ", detail", detail, checks.refusal(true));
    }

    void finish() {
        System.out.println(done + " checks, " + wrong + " wrong");
        if (wrong != 0) {
            System.exit(1);
        }
    }
}
