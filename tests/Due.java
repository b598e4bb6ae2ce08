/** What is due of a call, counted: passed and failed. */
final class Due {
    interface Call {
        int go();
    }

    static int passed = 0;
    static int failed = 0;
    static int sentences = 0;
    private static String sentence = "";

    private Due() {
    }

    /** The sentence of the document that the tests that follow stand for; failures are told with it. */
    static void says(String words) {
        sentence = words + "\n    ";
        sentences++;
    }

    static void noSentence() {
        sentence = "";
    }

    private static void same(String what, String due, String got) {
        if (due.equals(got)) {
            passed++;
        } else {
            failed++;
            System.out.println(sentence + what + ": due is " + due + ", answered was " + got);
        }
    }

    static void is(String what, long due, long got) {
        same(what, Long.toString(due), Long.toString(got));
    }

    static void answers(String what, String due, Call call) {
        same(what, due, answer(call));
    }

    /** What a call answers, or the name of what it throws. */
    static String answer(Call call) {
        try {
            return Integer.toString(call.go());
        } catch (RuntimeException e) {
            return e.getClass().getName();
        }
    }

    static void throwsIt(String what, Class<?> due, Call call) {
        same(what, due.getName(), answer(call));
    }

    static void iae(String what, Call call) {
        throwsIt(what, IllegalArgumentException.class, call);
    }

    static void ise(String what, Call call) {
        throwsIt(what, IllegalStateException.class, call);
    }

    static void ioobe(String what, Call call) {
        throwsIt(what, IndexOutOfBoundsException.class, call);
    }

    /** The signs of a text of at most eight, as type() takes them. */
    static long signs(String text) {
        long signs = 0;
        for (int i = text.length() - 1; i >= 0; i--) {
            signs = signs << 8 | text.charAt(i);
        }
        return signs;
    }

    /** Types a text of any length. */
    static void type(ArrayFile x, String text) {
        for (int i = 0; i < text.length(); i += 8) {
            x.type(signs(text.substring(i, Math.min(text.length(), i + 8))));
        }
    }
}
