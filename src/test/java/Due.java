/** Compares answers with those that are due, and tells each that is wrong. */
final class Due {
    interface Call {
        int answer();
    }

    private static int wrong = 0;
    private static int asked = 0;

    private Due() {
    }

    static void is(String call, long want, long got) {
        asked++;
        if (got != want) {
            wrong++;
            System.out.println(call + " answered " + got + ", due is " + want);
        }
    }

    static void row(String calls, Object got, Object want) {
        asked++;
        if (!want.equals(got)) {
            wrong++;
            System.out.println(calls + " answered " + got + ", due is " + want);
        }
    }

    /** The answer as a text, or the exception's name behind "throws.". */
    static String told(Call call) {
        try {
            return String.valueOf(call.answer());
        } catch (RuntimeException e) {
            return "throws." + e.getClass().getSimpleName();
        }
    }

    static void missing(String call, Call made) {
        row(call, told(made), "throws.IndexOutOfBoundsException");
    }

    static void outOfRange(String call, Call made) {
        row(call, told(made), "throws.IllegalArgumentException");
    }

    static void notNow(String call, Call made) {
        row(call, told(made), "throws.IllegalStateException");
    }

    static void write(ClosedStreets x, String text) {
        x.clearText();
        for (int i = 0; i < text.length(); i++) {
            x.append(text.charAt(i));
        }
    }

    static ClosedStreets town(String text) {
        ClosedStreets x = new ClosedStreets();
        write(x, text);
        x.load();
        x.clearText();
        return x;
    }

    /** All that the calls of the section "the town" tell of the state. */
    static String state(ClosedStreets x) {
        StringBuilder told = new StringBuilder();
        for (int what = 0; what < 8; what++) {
            told.append(x.about(what)).append(' ');
        }
        for (int s = 0; s < x.about(1); s++) {
            for (int what = 0; what < 5; what++) {
                told.append(what == 0 ? '|' : ' ').append(x.street(s, what));
            }
        }
        return told.toString();
    }

    static void end() {
        System.out.println(asked + " answers, " + wrong + " not as due");
        if (wrong != 0) {
            System.exit(1);
        }
    }
}
