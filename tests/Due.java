/** What is due of a call, counted: passed and failed. */
final class Due {
    interface Call {
        int go();
    }

    static int passed = 0;
    static int failed = 0;

    private Due() {
    }

    static void is(String what, long due, long got) {
        if (due == got) {
            passed++;
        } else {
            failed++;
            System.out.println(what + ": due is " + due + ", answered was " + got);
        }
    }

    static void throwsIt(String what, Class<?> due, Call call) {
        String got;
        try {
            got = Integer.toString(call.go());
        } catch (RuntimeException e) {
            got = e.getClass().getName();
        }
        if (got.equals(due.getName())) {
            passed++;
        } else {
            failed++;
            System.out.println(what + ": due is " + due.getName() + ", answered was " + got);
        }
    }

    static void iae(String what, Call call) {
        throwsIt(what, IllegalArgumentException.class, call);
    }

    static void ise(String what, Call call) {
        throwsIt(what, IllegalStateException.class, call);
    }

    static void ioobe(String what, Call call) {
        throwsIt(what, IndexOutOfBoundsException.class, call);
    }

    /** The signs of a text of at most eight, as type() takes them. */
    static long signs(String text) {
        long signs = 0;
        for (int i = text.length() - 1; i >= 0; i--) {
            signs = signs << 8 | text.charAt(i);
        }
        return signs;
    }

    /** Types a text of any length. */
    static void type(ArrayFile x, String text) {
        for (int i = 0; i < text.length(); i += 8) {
            x.type(signs(text.substring(i, Math.min(text.length(), i + 8))));
        }
    }
}
