/** What the tests share: it counts the answers that are not due. */
final class Check {
    private static int asked = 0;
    private static int wrong = 0;

    /** The sentence of the document that is tested now, or nothing. */
    static String about = "";

    private Check() {
    }

    interface Call {
        Object answer();
    }

    static void same(String what, Object got, Object due) {
        asked++;
        if (!String.valueOf(got).equals(String.valueOf(due))) {
            wrong++;
            System.out.println(about + what + " answered " + got + ", due is " + due);
        }
    }

    static void holds(String what, boolean so) {
        same(what, so, true);
    }

    /** The answer of a call, or the name of what it throws. */
    static Object answerOf(Call call) {
        try {
            return call.answer();
        } catch (RuntimeException e) {
            return "throws." + e.getClass().getSimpleName();
        }
    }

    static void noIndex(String what, Call call) {
        same(what, answerOf(call), "throws.IndexOutOfBoundsException");
    }

    static void noArgument(String what, Call call) {
        same(what, answerOf(call), "throws.IllegalArgumentException");
    }

    static void noState(String what, Call call) {
        same(what, answerOf(call), "throws.IllegalStateException");
    }

    /** Feeds a text whose signs are bytes; the tape is trimmed to it. */
    static void feed(BeltRounds x, String text) {
        int before = x.tapeBytes();
        for (int i = 0; i < text.length(); i += 20) {
            x.feed(four(text, i), four(text, i + 4), four(text, i + 8), four(text, i + 12), four(text, i + 16));
        }
        x.trim(before + text.length());
    }

    private static int four(String text, int from) {
        int number = 0;
        for (int i = from; i < from + 4; i++) {
            number = number << 8 | (i < text.length() ? text.charAt(i) & 255 : ' ');
        }
        return number;
    }

    static int teach(BeltRounds x, String text) {
        feed(x, text);
        return x.teach();
    }

    static BeltRounds taught(String text) {
        BeltRounds x = new BeltRounds();
        same("teach() of " + text, teach(x, text), 0);
        return x;
    }

    /** Teaches a new object and asks for the error and its position. */
    static void error(String text, int error, int at) {
        BeltRounds x = new BeltRounds();
        same("teach() of '" + text + "'", teach(x, text), error);
        same("errorAt() of '" + text + "'", x.errorAt(), at);
    }

    static void end(String test) {
        System.out.println(test + ": " + asked + " answers, " + wrong + " of them wrong");
        if (wrong != 0 || asked == 0) {
            System.exit(1);
        }
    }
}
