/** Compares answers with those that are due, and tells every one that is not. */
final class Check {
    private int wrong = 0;
    private int looked = 0;

    void same(String what, long due, long got) {
        looked++;
        if (due != got) {
            tell(what + " answered " + got + ", due is " + due);
        }
    }

    void text(String what, String due, String got) {
        looked++;
        if (!due.equals(got)) {
            tell(what + " answered " + got + ", due is " + due);
        }
    }

    void argument(String what, Runnable call) {
        mustThrow(what, IllegalArgumentException.class, call);
    }

    void state(String what, Runnable call) {
        mustThrow(what, IllegalStateException.class, call);
    }

    void tell(String fault) {
        wrong++;
        System.out.println(fault);
    }

    void end() {
        System.out.println(wrong == 0 ? looked + " answers are as due" : wrong + " faults");
        if (wrong != 0 || looked == 0) {
            System.exit(1);
        }
    }

    private void mustThrow(String what, Class<?> due, Runnable call) {
        looked++;
        try {
            call.run();
        } catch (RuntimeException e) {
            // A class below the due one would be the machine's or the library's own.
            if (e.getClass() != due) {
                tell(what + " threw " + e + ", due is " + due.getSimpleName());
            }
            return;
        }
        tell(what + " threw nothing, due is " + due.getSimpleName());
    }
}
