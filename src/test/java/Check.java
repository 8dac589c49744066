import java.util.List;

/** Counts and prints the answers that are not the ones that are due. */
final class Check {
    private int wrong = 0;

    void is(String call, long got, long due) {
        if (got != due) {
            tell(call + " answered " + got + ", due is " + due);
        }
    }

    void text(String what, String got, String due) {
        if (!got.equals(due)) {
            tell(what + " is " + got + ", due is " + due);
        }
    }

    void same(String what, List<Long> got, List<Long> due) {
        if (!got.equals(due)) {
            tell(what + " is " + got + ", due is " + due);
        }
    }

    void argument(String call, Runnable body) {
        throwing(call, IllegalArgumentException.class, body);
    }

    void state(String call, Runnable body) {
        throwing(call, IllegalStateException.class, body);
    }

    void index(String call, Runnable body) {
        throwing(call, IndexOutOfBoundsException.class, body);
    }

    /** Every test ends with this call, so that a wrong answer gives exit code 1. */
    void end() {
        if (wrong > 0) {
            System.exit(1);
        }
    }

    private void throwing(String call, Class<?> due, Runnable body) {
        Class<?> got = null;
        try {
            body.run();
        } catch (RuntimeException e) {
            got = e.getClass();
        }
        if (got != due) {
            tell(call + " threw " + got + ", due is " + due);
        }
    }

    private void tell(String line) {
        wrong++;
        System.out.println(line);
    }
}
