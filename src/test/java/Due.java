/** Compares answers with those that are due, and tells each that is wrong. */
final class Due {
    static final int LEAST = Integer.MIN_VALUE;
    static final int GREATEST = Integer.MAX_VALUE;

    interface Call {
        int answer();
    }

    interface CallWith {
        int answer(int argument);
    }

    private static int wrong = 0;
    private static int asked = 0;
    private static String sentence = "";

    private Due() {
    }

    static void is(String call, long want, long got) {
        row(call, got, want);
    }

    static void row(String calls, Object got, Object want) {
        asked++;
        if (!want.equals(got)) {
            complain(calls + " answered " + got + ", due is " + want);
        }
    }

    private static void complain(String what) {
        wrong++;
        System.out.println(what + (sentence.isEmpty() ? "" : " [" + sentence + "]"));
    }

    /** The answer as a text, or the exception's name behind "throws.". */
    static String told(Call call) {
        try {
            return String.valueOf(call.answer());
        } catch (RuntimeException e) {
            return "throws." + e.getClass().getSimpleName();
        }
    }

    static void missing(String call, Call made) {
        row(call, told(made), "throws.IndexOutOfBoundsException");
    }

    static void outOfRange(String call, Call made) {
        row(call, told(made), "throws.IllegalArgumentException");
    }

    static void notNow(String call, Call made) {
        row(call, told(made), "throws.IllegalStateException");
    }

    static void eachMissing(String call, CallWith made, int... arguments) {
        for (int argument : arguments) {
            missing(call + " of " + argument, () -> made.answer(argument));
        }
    }

    static void eachOutOfRange(String call, CallWith made, int... arguments) {
        for (int argument : arguments) {
            outOfRange(call + " of " + argument, () -> made.answer(argument));
        }
    }

    static void eachIs(String call, int want, CallWith made, int... arguments) {
        for (int argument : arguments) {
            row(call + " of " + argument, told(() -> made.answer(argument)), "" + want);
        }
    }

    /** The answers to 0, 1, 2 and so on are these. */
    static void inOrder(String call, CallWith made, int... wants) {
        for (int i = 0; i < wants.length; i++) {
            eachIs(call, wants[i], made, i);
        }
    }

    /** The words of the document that the answers asked from here on are due by. */
    static void by(String words) {
        sentence = words;
    }

    static int asked() {
        return asked;
    }

    static void end() {
        System.out.println(asked + " answers, " + wrong + " not as due");
        if (wrong != 0) {
            System.exit(1);
        }
    }
}
