import java.util.function.LongSupplier;

/** Counts what is not as it is due, and ends a test with exit code 1 if anything was not. */
final class Check {
    private int right = 0;
    private int wrong = 0;

    void same(String what, long got, long due) {
        if (got == due) {
            right++;
            return;
        }
        wrong++;
        System.out.println(what + " answered " + got + ", due is " + due);
    }

    /** The call throws an exception of just this class. */
    void thrown(String what, Class<? extends RuntimeException> due, LongSupplier call) {
        String got;
        try {
            got = "answered " + call.getAsLong();
        } catch (RuntimeException e) {
            if (e.getClass() == due) {
                right++;
                return;
            }
            got = "threw " + e.getClass().getName();
        }
        wrong++;
        System.out.println(what + " " + got + ", due is " + due.getName());
    }

    void noIndex(String what, LongSupplier call) {
        thrown(what, IndexOutOfBoundsException.class, call);
    }

    void badArgument(String what, LongSupplier call) {
        thrown(what, IllegalArgumentException.class, call);
    }

    void badState(String what, LongSupplier call) {
        thrown(what, IllegalStateException.class, call);
    }

    void end() {
        System.out.println(right + " passed, " + wrong + " failed");
        if (wrong > 0) {
            System.exit(1);
        }
    }
}
