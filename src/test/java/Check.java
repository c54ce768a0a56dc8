import java.util.Objects;

/** Compares answers with those that are due, and counts the wrong ones. */
final class Check {
    private static int wrong;
    private static int done;
    private static String about = "";

    interface Call {
        Object run();
    }

    /** A call of a store with one number. */
    interface Asked {
        Object of(LogWeave store, int number);
    }

    /** A call of a store with several numbers. */
    interface AskedWithMany {
        Object of(LogWeave store, int[] numbers);
    }

    private Check() {
    }

    /** What the answers that follow are about, told with those that are wrong. */
    static void about(String words) {
        about = words + ": ";
    }

    static int done() {
        return done;
    }

    static void same(String what, Object got, Object due) {
        done++;
        if (!Objects.equals(got, due)) {
            wrong++;
            System.out.println(about + what + difference(String.valueOf(got), String.valueOf(due)));
        }
    }

    /** Of long texts, such as the pictures of two stores, only the first line in which they are not the same. */
    private static String difference(String got, String due) {
        String[] gotLines = got.split("\n");
        String[] dueLines = due.split("\n");
        int line = 0;
        while (line < gotLines.length - 1 && line < dueLines.length - 1 && gotLines[line].equals(dueLines[line])) {
            line++;
        }
        return " answered " + gotLines[line] + ", due is " + dueLines[line];
    }

    /** Numbers just beyond a range, the least and the greatest int, and such as a narrow type would wrap into it. */
    static int[] beyond(int least, int greatest) {
        return new int[] {least - 1, greatest + 1, Integer.MIN_VALUE, Integer.MAX_VALUE, least - 256, greatest + 256,
                greatest + 65536, Integer.MIN_VALUE + greatest};
    }

    /** The call fails so for each number. */
    static void refuses(LogWeave store, Class<? extends RuntimeException> due, Asked asked, int... numbers) {
        for (int number : numbers) {
            fails(store, "with " + number, due, () -> asked.of(store, number));
        }
    }

    /** The call fails so with each of its numbers beyond its range, the others as they are given. */
    static void refusesEach(LogWeave store, Class<? extends RuntimeException> due, AskedWithMany asked, int[] least,
            int[] greatest, int[] others) {
        for (int i = 0; i < least.length; i++) {
            for (int wrong : beyond(least[i], greatest[i])) {
                int[] numbers = others.clone();
                numbers[i] = wrong;
                fails(store, "the number " + i + " is " + wrong, due, () -> asked.of(store, numbers));
            }
        }
    }

    /** The call throws just this exception, by a statement of the class itself, and changes nothing in the store. */
    static void fails(LogWeave store, String what, Class<? extends RuntimeException> due, Call call) {
        String before = Picture.of(store);
        same(what, answerOf(call), due.getSimpleName());
        same(what + " is thrown by", throwerOf(call), LogWeave.class.getName());
        same(what + " changes nothing", Picture.of(store), before);
    }

    private static String throwerOf(Call call) {
        try {
            call.run();
        } catch (RuntimeException e) {
            return e.getStackTrace().length == 0 ? "the machine" : e.getStackTrace()[0].getClassName();
        }
        return "nothing";
    }

    /** The answer of a call, or the simple name of what it throws. */
    static Object answerOf(Call call) {
        try {
            return call.run();
        } catch (RuntimeException e) {
            return e.getClass().getSimpleName();
        }
    }

    static void end() {
        System.out.println(done + " answers looked at, " + wrong + " wrong");
        if (wrong != 0 || done == 0) {
            System.exit(1);
        }
    }
}
