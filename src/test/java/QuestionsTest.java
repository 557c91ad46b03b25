/**
 * "What there is; nothing from here on changes anything": the calls from day() to mendingAnew(), each with all that it
 * takes, answer the same when they are asked again, and leave a ring as one that was not asked.
 */
public final class QuestionsTest {
    private static final int[] DAYS = {0, 1, 2, 999};

    interface Question {
        /** Asks the ring with all that the call takes; what it answered, one behind the other. */
        String answers(KayfabeRing ring);
    }

    private final String state;
    private final Views.Alike alike;
    private final String want;

    private QuestionsTest(String state, Views.Alike alike) {
        this.state = state;
        this.alike = alike;
        want = Views.all(alike);
    }

    public static void main(String[] args) {
        QuestionsTest[] states = {
            new QuestionsTest("empty", KayfabeRing::new), new QuestionsTest("two alone", () -> Stage.ofSize(2, 0)),
            new QuestionsTest("booked", States::booked), new QuestionsTest("open places", States::open),
            new QuestionsTest("five open places", States::fiveOpen), new QuestionsTest("played", States::played),
            new QuestionsTest("the next day", States::nextDay),
        };
        for (QuestionsTest test : states) {
            test.oneAnswer();
            test.ofNumbers();
            test.ofPairs();
            test.ofCards();
        }
        Check.finish();
    }

    private void asked(String what, Question question) {
        KayfabeRing ring = alike.ring();
        String first = question.answers(ring);
        Check.due(state + ": asked again, " + what, first, question.answers(ring));
        Check.due(state + ": of another ring alike, " + what, first, question.answers(alike.ring()));
        Check.due(state + ": nothing changed by " + what, want, Views.all(() -> {
            KayfabeRing other = alike.ring();
            question.answers(other);
            return other;
        }));
    }

    private void oneAnswer() {
        asked("15", ring -> Check.outcome(ring::day));
        asked("26", ring -> Check.outcome(ring::mending));
        asked("27", ring -> Check.outcome(ring::mendingAnew));
        asked("26, then 27", ring -> Check.outcome(ring::mending) + " " + Check.outcome(ring::mendingAnew));
    }

    private void ofNumbers() {
        asked("22", ring -> each(4, title -> ring.champion(title)));
        asked("25", ring -> each(4, town -> ring.gate(town)));
        asked("16", ring -> each(70, i -> ring.ofWrestler(i / 7, i % 7)));
        asked("21", ring -> each(24, i -> ring.lineage(i / 6, i / 2 % 3, i % 2 == 1)));
    }

    private void ofPairs() {
        asked("17", ring -> each(40, i -> ring.love(i / 10, i % 10)));
        asked("18", ring -> each(40, i -> ring.worth(i / 10, i % 10)));
        asked("23", ring -> each(100, i -> ring.beat(i / 10, i % 10)));
        asked("24", ring -> each(100, i -> ring.beatAnew(i / 10, i % 10)));
    }

    private void ofCards() {
        asked("19", ring -> each(4 * DAYS.length, i -> ring.ofCard(DAYS[i / 4], i % 4)));
        asked("20", ring -> each(30 * DAYS.length, i -> ring.ofMatch(DAYS[i / 30], i / 6 % 5, i % 6)));
    }

    interface Asked {
        int answer(int number);
    }

    private static String each(int count, Asked call) {
        StringBuilder text = new StringBuilder();
        for (int i = 0; i < count; i++) {
            int number = i;
            text.append(Check.outcome(() -> call.answer(number))).append(' ');
        }
        return text.toString();
    }
}
