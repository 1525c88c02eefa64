import java.util.Objects;

/** Counts answers that are due and tells those that are not. */
final class Expect {
    interface Call {
        Object go();
    }

    private int passed;
    private int failed;

    int passed() {
        return passed;
    }

    int failed() {
        return failed;
    }

    /** The call's answer, or the class of what it throws with a throw of its own. */
    static Object outcome(Call call) {
        try {
            return call.go();
        } catch (RuntimeException e) {
            return isThrownByProgram(e) ? e.getClass() : "by the machine or the library: " + e;
        }
    }

    private static boolean isThrownByProgram(RuntimeException e) {
        StackTraceElement[] trace = e.getStackTrace();
        boolean isFromProgram = trace.length > 0
                && trace[0].getClassName().matches("(PackageForge|PlainModel)([$].*)?");
        // The machine's own messages name an index or a value; written ones have no digits.
        return isFromProgram && (e.getMessage() == null || !e.getMessage().matches(".*[0-9/].*"));
    }

    void equal(String what, Object due, Call call) {
        Object got = outcome(call);
        if (Objects.equals(due, got)) {
            passed++;
        } else {
            failed++;
            System.out.println(what + ": " + got + ", due is " + due);
        }
    }

    void refused(String what, Class<? extends RuntimeException> due, Call call) {
        equal(what, due, call);
    }

    void noPackage(String what, Call call) {
        refused(what, IndexOutOfBoundsException.class, call);
    }

    void badArgument(String what, Call call) {
        refused(what, IllegalArgumentException.class, call);
    }

    void badState(String what, Call call) {
        refused(what, IllegalStateException.class, call);
    }

    void missing(String what, Call call) {
        refused(what, java.util.NoSuchElementException.class, call);
    }

    void unsupported(String what, Call call) {
        refused(what, UnsupportedOperationException.class, call);
    }
}
