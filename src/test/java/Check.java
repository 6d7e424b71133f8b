/** Counts the answers that are not due, and ends the test with exit code 1 if there was one. */
final class Check {
    interface Call {
        Object answer();
    }

    /** What the questions are about; told before each wrong answer. */
    static String about = "";

    private static int wrong = 0;
    private static int asked = 0;

    private Check() {
    }

    /** The answer is what the call returns, or the simple name of the exception that it throws. */
    static Object answerOf(Call call) {
        try {
            return call.answer();
        } catch (RuntimeException e) {
            return "throws." + e.getClass().getSimpleName();
        }
    }

    static void due(String what, Object want, Call call) {
        asked++;
        Object got = answerOf(call);
        if (!want.equals(got)) {
            wrong++;
            System.out.println(about + what + " answered " + got + ", due is " + want);
        }
    }

    static int asked() {
        return asked;
    }

    static void refused(String what, BoomerangCourt court, int reason, int detail, Call call) {
        due(what, "throws.UnsupportedOperationException", call);
        due(what + ": reason", reason, () -> court.refusalReason());
        due(what + ": detail", detail, () -> court.refusalDetail());
    }

    static void badIndex(String what, Call call) {
        due(what, "throws.IndexOutOfBoundsException", call);
    }

    static void badArgument(String what, Call call) {
        due(what, "throws.IllegalArgumentException", call);
    }

    static void badState(String what, Call call) {
        due(what, "throws.IllegalStateException", call);
    }

    static void noSuchElement(String what, Call call) {
        due(what, "throws.NoSuchElementException", call);
    }

    /** Appends a command text, character by character. */
    static void type(BoomerangCourt court, String text) {
        for (int i = 0; i < text.length(); i++) {
            court.append(text.charAt(i));
        }
    }

    /** Types a command text, and runs it. */
    static Object run(BoomerangCourt court, String text) {
        type(court, text);
        return answerOf(() -> court.run());
    }

    static String lineOf(BoomerangCourt court, int length) {
        StringBuilder line = new StringBuilder();
        for (int i = 0; i < length; i++) {
            line.append(court.lineAt(i));
        }
        return line.toString();
    }

    static void end() {
        System.out.println(asked + " answers asked, " + wrong + " not as due");
        if (wrong != 0 || asked == 0) {
            System.exit(1);
        }
    }
}
