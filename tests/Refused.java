import java.util.ArrayList;
import java.util.List;

/** Calls that are refused: they throw what is due, and behind them every other call answers as without them. */
final class Refused {
    interface Made {
        ArrayFile make();
    }

    interface Act {
        int go(ArrayFile x);
    }

    /** An object is used for at most 512 calls: a new one is made for each so many questions. */
    private static final int QUESTIONS_OF_ONE = 300;
    private static final int OBJECTS = 30;

    private Refused() {
    }

    static void iae(String what, Made made, Act act) {
        check(what, IllegalArgumentException.class, made, act);
    }

    static void ise(String what, Made made, Act act) {
        check(what, IllegalStateException.class, made, act);
    }

    static void ioobe(String what, Made made, Act act) {
        check(what, IndexOutOfBoundsException.class, made, act);
    }

    private static void check(String what, Class<?> due, Made made, Act act) {
        List<Act> questions = questionsTo(made);
        int differences = 0;
        for (int from = 0; from < questions.size(); from += QUESTIONS_OF_ONE) {
            ArrayFile without = made.make();
            ArrayFile with = made.make();
            String thrown = Due.answer(() -> act.go(with));
            if (from == 0) {
                Due.answers(what, due.getName(), () -> act.go(made.make()));
            }
            differences += thrown.equals(due.getName()) ? 0 : 1;
            int to = Math.min(questions.size(), from + QUESTIONS_OF_ONE);
            for (Act question : questions.subList(from, to)) {
                String before = Due.answer(() -> question.go(without));
                String behind = Due.answer(() -> question.go(with));
                differences += before.equals(behind) ? 0 : 1;
            }
        }
        Due.is(what + ": answers that are others behind it", 0, differences);
    }

    private static List<Act> questionsTo(Made made) {
        List<Act> questions = new ArrayList<>();
        questions.add(x -> x.type(0));
        for (int level = 0; level < 6; level++) {
            int one = level;
            questions.add(x -> x.trouble(one, false));
            questions.add(x -> x.trouble(one, true));
        }
        questions.add(x -> x.used(false));
        questions.add(x -> x.used(true));
        for (int place = 0; place < 1500; place++) {
            int one = place;
            questions.add(x -> x.fileAt(one));
        }
        for (int object = 0; object < OBJECTS; object++) {
            questionsOfObject(questions, made, object);
        }
        questions.add(x -> x.clear(0));
        questions.add(x -> x.clear(1));
        return questions;
    }

    private static void questionsOfObject(List<Act> questions, Made made, int object) {
        for (int what = 0; what < 5; what++) {
            int one = what;
            questions.add(x -> x.object(object, one));
        }
        ArrayFile x = made.make();
        String sort = Due.answer(() -> x.object(object, 0));
        if (!sort.equals("1") && !sort.equals("2")) {
            return;
        }
        int shape = x.object(object, 2);
        for (int row = 0; row < shape / 100; row++) {
            for (int column = 0; column < shape % 100; column++) {
                int i = row;
                int j = column;
                questions.add(y -> y.read(object, i, j));
                questions.add(y -> y.bad(object, i, j));
                questions.add(y -> y.plain(object, i, j));
            }
        }
    }
}
