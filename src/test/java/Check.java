import java.util.function.LongSupplier;
import java.util.function.Supplier;
import java.util.function.ToLongFunction;

/** Counts what is not as it is due, and ends a test with exit code 1 if anything was not. */
final class Check {
    private int right = 0;
    private int wrong = 0;
    private String sentence = "";

    /** The words of the document that the checks behind this hold: what is wrong is told with them. */
    void says(String newSentence) {
        sentence = "[" + newSentence + "] ";
    }

    void same(String what, long got, long due) {
        if (got == due) {
            right++;
        } else {
            tellWrong(what + " answered " + got + ", due is " + due);
        }
    }

    void same(String what, String got, String due) {
        if (got.equals(due)) {
            right++;
        } else {
            tellWrong(what + " is\n  " + got + ", due is\n  " + due);
        }
    }

    private void tellWrong(String what) {
        wrong++;
        System.out.println(sentence + what);
    }

    /** The call throws an exception of just this class. */
    void thrown(String what, Class<? extends RuntimeException> due, LongSupplier call) {
        String got;
        try {
            got = "answered " + call.getAsLong();
        } catch (RuntimeException e) {
            if (e.getClass() == due) {
                right++;
                return;
            }
            got = "threw " + e.getClass().getName();
        }
        tellWrong(what + " " + got + ", due is " + due.getName());
    }

    void noIndex(String what, LongSupplier call) {
        thrown(what, IndexOutOfBoundsException.class, call);
    }

    void badArgument(String what, LongSupplier call) {
        thrown(what, IllegalArgumentException.class, call);
    }

    void badState(String what, LongSupplier call) {
        thrown(what, IllegalStateException.class, call);
    }

    void notDecimal(String what, LongSupplier call) {
        thrown(what, ArithmeticException.class, call);
    }

    /** The call throws just this, and the object then tells in all what one tells of which it was not asked. */
    void refused(String what, Class<? extends RuntimeException> due, Supplier<DoublePacks> made,
            ToLongFunction<DoublePacks> call) {
        DoublePacks x = made.get();
        thrown(what, due, () -> call.applyAsLong(x));
        same(what + ": nothing is changed", State.of(x), State.of(made.get()));
    }

    void end() {
        System.out.println(right + " passed, " + wrong + " failed");
        if (wrong > 0) {
            System.exit(1);
        }
    }
}
