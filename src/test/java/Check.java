import java.util.Objects;

/** Compares answers with those that are due, and counts the wrong ones. */
final class Check {
    private static int wrong;
    private static int done;

    interface Call {
        Object run();
    }

    private Check() {
    }

    static void same(String what, Object got, Object due) {
        done++;
        if (!Objects.equals(got, due)) {
            wrong++;
            System.out.println(what + " answered " + got + ", due is " + due);
        }
    }

    /** The call throws just this exception, by a statement of the class itself, and changes nothing in the store. */
    static void fails(LogWeave store, String what, Class<? extends RuntimeException> due, Call call) {
        String before = Picture.of(store);
        same(what, answerOf(call), due.getSimpleName());
        same(what + " is thrown by", throwerOf(call), LogWeave.class.getName());
        same(what + " changes nothing", Picture.of(store), before);
    }

    private static String throwerOf(Call call) {
        try {
            call.run();
        } catch (RuntimeException e) {
            return e.getStackTrace().length == 0 ? "the machine" : e.getStackTrace()[0].getClassName();
        }
        return "nothing";
    }

    /** The answer of a call, or the simple name of what it throws. */
    static Object answerOf(Call call) {
        try {
            return call.run();
        } catch (RuntimeException e) {
            return e.getClass().getSimpleName();
        }
    }

    static void end() {
        System.out.println(done + " answers looked at, " + wrong + " wrong");
        if (wrong != 0 || done == 0) {
            System.exit(1);
        }
    }
}
