/** Promises 10 and 11. */
public final class AnswerTest {
    private static final Check check = new Check();

    public static void main(String[] args) {
        longestAnswer();
        latestDoneCounts();
        wrongInputs();
        check.end();
    }

    private static void longestAnswer() {
        PatronHall hall = new PatronHall();
        Check.asked(hall, 3, Check.NEXT);
        for (int i = 0; i < 134; i++) {
            hall.feed(255 - i, 1);
        }
        hall.reply(3, 1, 0, 1);
        check.due("answer", hall.answer(3), 134);
        for (int i = 0; i < 134; i++) {
            check.due("answerAt(3, " + i + ")", hall.answerAt(3, i), 255 - i);
        }
        check.dueNoIndex("answerAt(3, 134)", () -> hall.answerAt(3, 134));
        check.due("another client", hall.answer(4), 0);
    }

    private static void latestDoneCounts() {
        PatronHall hall = new PatronHall();
        Check.asked(hall, 0, Check.GET);
        check.due("0 before", hall.answer(0), 0);
        Check.fed(hall, 3).reply(0, 9, 0, 1);
        check.due("not its request", hall.answer(0), 0);
        Check.fed(hall, 3).reply(0, 1, 0, 1);
        check.due("told", hall.answer(0), 3);
        hall.feed(0, 8);
        check.due("the tape is another", hall.answerAt(0, 2), 3);
        hall.reply(0, 1, 0, 1);
        check.due("a reply to an idle one", hall.answer(0), 3);
        Check.asked(hall, 0, Check.PUT);
        check.due("asked anew", hall.answer(0), 3);
        Check.fed(hall, 5).reply(0, 2, 0, 1);
        check.due("OPEN is not told", hall.answer(0), 3);
        hall.reply(0, 3, 2, 0);
        check.due("UNCLEAR has no answer", hall.answer(0), 3);
        Check.asked(hall, 0, Check.GET);
        hall.giveUp(0);
        check.due("GIVEN UP has no answer", hall.answer(0), 3);
        Check.asked(hall, 0, Check.GET);
        hall.reply(0, 5, 0, 1);
        check.due("an empty answer", hall.answer(0), 0);
        check.dueNoIndex("an empty answer", () -> hall.answerAt(0, 0));
    }

    private static void wrongInputs() {
        PatronHall hall = new PatronHall();
        Check.asked(hall, 0, Check.GET);
        Check.fed(hall, 1).reply(0, 1, 0, 1);
        for (int wrong : new int[] {-1, 8, Integer.MIN_VALUE, Integer.MAX_VALUE}) {
            check.dueNoIndex("answer(" + wrong + ")", () -> hall.answer(wrong));
            check.dueNoIndex("answerAt(" + wrong + ", 0)", () -> hall.answerAt(wrong, 0));
            check.dueNoIndex("answerAt(0, " + wrong + ")", () -> hall.answerAt(0, wrong));
        }
        check.dueNoIndex("answerAt(0, 1)", () -> hall.answerAt(0, 1));
    }
}
