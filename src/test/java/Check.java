import java.util.Objects;

/** Compares answers with those that are due, and counts the wrong ones. */
final class Check {
    private static int wrong;
    private static int done;

    interface Call {
        Object run();
    }

    private Check() {
    }

    static void same(String what, Object got, Object due) {
        done++;
        if (!Objects.equals(got, due)) {
            wrong++;
            System.out.println(what + " answered " + got + ", due is " + due);
        }
    }

    /** The call throws just this exception, and changes nothing in the store. */
    static void fails(LogWeave store, String what, Class<? extends RuntimeException> due, Call call) {
        String before = Picture.of(store);
        same(what, answerOf(call), due.getSimpleName());
        same(what + " changes nothing", Picture.of(store), before);
    }

    /** The answer of a call, or the simple name of what it throws. */
    static Object answerOf(Call call) {
        try {
            return call.run();
        } catch (RuntimeException e) {
            return e.getClass().getSimpleName();
        }
    }

    static void end() {
        System.out.println(done + " answers looked at, " + wrong + " wrong");
        if (wrong != 0 || done == 0) {
            System.exit(1);
        }
    }
}
