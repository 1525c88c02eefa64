import java.util.Objects;

/** Counts answers that are due and tells those that are not. */
final class Expect {
    interface Call {
        Object go();
    }

    private int passed;
    private int failed;

    int passed() {
        return passed;
    }

    int failed() {
        return failed;
    }

    /** The call's answer, or the class of what it throws. */
    static Object outcome(Call call) {
        try {
            return call.go();
        } catch (RuntimeException e) {
            return e.getClass();
        }
    }

    void equal(String what, Object due, Call call) {
        Object got = outcome(call);
        if (Objects.equals(due, got)) {
            passed++;
        } else {
            failed++;
            System.out.println(what + ": " + got + ", due is " + due);
        }
    }

    void refused(String what, Class<? extends RuntimeException> due, Call call) {
        equal(what, due, call);
    }

    void noPackage(String what, Call call) {
        refused(what, IndexOutOfBoundsException.class, call);
    }

    void badArgument(String what, Call call) {
        refused(what, IllegalArgumentException.class, call);
    }

    void badState(String what, Call call) {
        refused(what, IllegalStateException.class, call);
    }

    void missing(String what, Call call) {
        refused(what, java.util.NoSuchElementException.class, call);
    }

    void unsupported(String what, Call call) {
        refused(what, UnsupportedOperationException.class, call);
    }
}
