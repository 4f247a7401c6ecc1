import java.util.ArrayList;
import java.util.List;
import java.util.function.Consumer;
import java.util.function.ToIntFunction;

/**
 * Every answer that a shelter gives of itself, the tape and the FAULT among them. They are asked of fresh
 * objects that go through the same calls first, since an object is good for 512 calls alone.
 */
final class Answers {
    private static final int CALLS_AN_OBJECT = 240;
    private static final int BLANKS = 0x20202020;

    private static final List<Question> QUESTIONS = questions();

    private record Question(String call, ToIntFunction<NightShelter> ask) {
    }

    private Answers() {
    }

    /** All answers after some calls (at most 270) are the same as after others. */
    static void same(String when, Consumer<NightShelter> got, Consumer<NightShelter> due) {
        for (int first = 0; first < QUESTIONS.size(); first += CALLS_AN_OBJECT) {
            NightShelter x = new NightShelter();
            NightShelter y = new NightShelter();
            got.accept(x);
            due.accept(y);
            for (Question q : QUESTIONS.subList(first, Math.min(first + CALLS_AN_OBJECT, QUESTIONS.size()))) {
                Checks.same(when + ": " + q.call, q.ask.applyAsInt(x), q.ask.applyAsInt(y));
            }
        }
    }

    private static List<Question> questions() {
        List<Question> all = new ArrayList<>();
        for (int i = 0; i < 8; i++) {
            int what = i;
            all.add(new Question("count(" + what + ")", x -> x.count(what)));
        }
        for (int i = 0; i < 24; i++) {
            askOfPerson(all, i);
        }
        for (int i = 0; i < 8; i++) {
            int helper = i;
            all.add(new Question("duty(" + helper + ", 0)", x -> x.duty(helper, 0)));
            all.add(new Question("duty(" + helper + ", 1)", x -> x.duty(helper, 1)));
            all.add(new Question("called(" + helper + ")", x -> x.called(helper) ? 1 : 0));
        }
        for (int i = 0; i < 6; i++) {
            askOfEvening(all, i);
        }
        askOfTape(all);
        return all;
    }

    private static void askOfPerson(List<Question> all, int person) {
        for (int i = 0; i <= 10; i++) {
            int what = i;
            all.add(new Question("tell(" + person + ", " + what + ")", x -> x.tell(person, what)));
        }
        for (int i = 0; i <= 2; i++) {
            int what = i;
            all.add(new Question("told(" + person + ", " + what + ")", x -> x.told(person, what)));
        }
        all.add(new Question("points(" + person + ", true)", x -> x.points(person, true)));
        all.add(new Question("points(" + person + ", false)", x -> x.points(person, false)));
    }

    private static void askOfEvening(List<Question> all, int evening) {
        for (int i = 0; i <= 13; i++) {
            int what = i;
            if (what < 5 || what > 9) {
                all.add(new Question("book(" + evening + ", " + what + ")", x -> x.book(evening, what)));
            }
        }
    }

    /* These change what they ask for, so they come last. */
    private static void askOfTape(List<Question> all) {
        for (int i = 0; i < 2; i++) {
            int what = i;
            all.add(new Question("fault(" + what + ")", x -> x.fault(what)));
        }
        all.add(new Question("feed with blanks", x -> x.feed(BLANKS, BLANKS, BLANKS, BLANKS, BLANKS)));
        all.add(new Question("text()", NightShelter::text));
        for (int i = 0; i < 2; i++) {
            int what = i;
            all.add(new Question("fault(" + what + ") of the tape", x -> x.fault(what)));
        }
        all.add(new Question("points(0, false) by the tape", x -> x.points(0, false)));
    }
}
