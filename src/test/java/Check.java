import java.util.Objects;

/** What a test asks of an answer; a check that fails ends its test. */
final class Check {
    private Check() {
    }

    /** A call whose answer or exception is looked at. */
    interface Call {
        Object make();
    }

    static void is(String what, Object due, Object got) {
        if (!Objects.equals(due, got)) {
            throw new AssertionError(what + " answered " + got + ", due is " + due);
        }
    }

    static void isTrue(String what, boolean got) {
        is(what, true, got);
    }

    static void isFalse(String what, boolean got) {
        is(what, false, got);
    }

    /** The very class is asked for: a subclass would come from the Java machine itself. */
    static void fails(String what, Class<? extends RuntimeException> due, Call call) {
        is(what, "throws " + due.getName(), answer(call));
    }

    static String answer(Call call) {
        try {
            return String.valueOf(call.make());
        } catch (RuntimeException e) {
            return "throws " + e.getClass().getName();
        }
    }

    /** Asks for an exception, and that nothing that can be seen is another one behind it. */
    static void failsAlone(String what, Class<? extends RuntimeException> due, VowelTorus x, Call call) {
        String before = Look.all(x);
        fails(what, due, call);
        is("all behind " + what, before, Look.all(x));
    }

    /** Asks for a refusal, its reason and its detail, and that nothing but these is another one behind it. */
    static void refuses(String what, int reason, int detail, VowelTorus x, Call call) {
        String before = Look.allButReason(x);
        fails(what, UnsupportedOperationException.class, call);
        is("the reason of " + what, reason, x.refusal(false));
        is("the detail of " + what, detail, x.refusal(true));
        is("all else behind " + what, before, Look.allButReason(x));
    }
}
