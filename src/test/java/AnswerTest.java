/** Promise 10. */
public final class AnswerTest {
    private static final Check check = new Check();

    public static void main(String[] args) {
        howManyBytes();
        zeroBefore();
        toldLast();
        onlyWhenItWasDone();
        openIsNotTold();
        repliesForNothingTellNothing();
        noSuchClient();
        lookingChangesNothing();
        check.end();
    }

    /** A GET that is DONE with an answer of so many bytes. */
    private static void told(PatronHall hall, int client, int size) {
        Check.asked(hall, client, Check.GET);
        Check.fed(hall, size).reply(client, hall.client(client, 4), 0, 1);
    }

    /** "How many bytes the answer has": from none to 134, for each kind. */
    private static void howManyBytes() {
        for (int kind = Check.PUT; kind <= Check.NEXT; kind++) {
            for (int size : new int[] {0, 1, 133, 134}) {
                PatronHall hall = Scenes.waiting(3, kind, true).then(Scenes.fedWith(size)).hall();
                check.due("reply", hall.reply(3, 3, 0, 1), true);
                check.due("answer", hall.answer(3), size);
            }
        }
    }

    /** "0 before": never asked, asked, requested again, told UNCLEAR, told GIVEN UP. */
    private static void zeroBefore() {
        PatronHall hall = new PatronHall();
        check.due("never asked", hall.answer(0), 0);
        Check.fed(hall, 8).ask(0, Check.GET, 8, 0);
        check.due("asked", hall.answer(0), 0);
        hall.tick(60);
        check.due("requested again", hall.answer(0), 0);
        hall.giveUp(0);
        check.due("told GIVEN UP", hall.answer(0), 0);
        Check.asked(hall, 0, Check.GET);
        hall.reply(0, 2, 2, 0);
        check.due("told UNCLEAR", hall.answer(0), 0);
        told(hall, 0, 5);
        check.due("told DONE", hall.answer(0), 5);
    }

    /** "that a client was told last": the one before is gone, be it longer or shorter; other clients' stay. */
    private static void toldLast() {
        PatronHall hall = new PatronHall();
        told(hall, 1, 7);
        for (int size : new int[] {3, 134, 2, 0, 1}) {
            told(hall, 0, size);
            check.due("answer(0)", hall.answer(0), size);
        }
        check.due("answer(1)", hall.answer(1), 7);
        check.due("answer(2)", hall.answer(2), 0);
    }

    /** "(when it was DONE)": nothing else that it is told has an answer, so the one of the latest DONE stays. */
    private static void onlyWhenItWasDone() {
        PatronHall hall = new PatronHall();
        told(hall, 0, 3);
        Check.asked(hall, 0, Check.GET);
        check.due("asked anew", hall.answer(0), 3);
        hall.giveUp(0);
        check.due("told GIVEN UP", hall.answer(0), 3);
        Check.asked(hall, 0, Check.GET);
        hall.reply(0, 3, 2, 0);
        check.due("told UNCLEAR", hall.answer(0), 3);
    }

    private static void openIsNotTold() {
        PatronHall hall = Scenes.asked(0, Check.PUT).then(Scenes.fedWith(134)).hall();
        check.due("reply to OPEN", hall.reply(0, 1, 0, 1), true);
        check.due("answer", hall.answer(0), 0);
    }

    private static void repliesForNothingTellNothing() {
        PatronHall hall = new PatronHall();
        told(hall, 0, 3);
        Check.fed(hall, 5).reply(0, 1, 0, 1);
        check.due("a reply to an idle one", hall.answer(0), 3);
        Check.asked(hall, 0, Check.GET);
        Check.fed(hall, 5).reply(0, 1, 0, 1);
        check.due("a reply for another number", hall.answer(0), 3);
        Check.fed(hall, 135);
        check.dueNoArgument("a reply that is too long", () -> hall.reply(0, 2, 0, 1));
        check.due("a reply that is too long", hall.answer(0), 3);
        Check.fed(hall, 5);
        check.dueNoArgument("a reply without a place", () -> hall.reply(0, 2, 0, 0));
        check.due("a reply without a place", hall.answer(0), 3);
    }

    /** "IndexOutOfBoundsException, when there is no such client". */
    private static void noSuchClient() {
        for (int client : new int[] {0, 7}) {
            PatronHall hall = new PatronHall();
            told(hall, client, 2);
            check.due("answer(" + client + ")", hall.answer(client), 2);
        }
        for (int client : Check.NO_CLIENTS) {
            check.refusedForIndex("answer(" + client + ")", Scenes.BUSY_WITH_TAPE, hall -> hall.answer(client));
        }
    }

    private static void lookingChangesNothing() {
        for (int client = 0; client < 8; client++) {
            int c = client;
            check.dueSame("answer(" + c + ")", Scenes.BUSY_WITH_TAPE, Scenes.BUSY_WITH_TAPE.then(hall -> hall.answer(c)));
        }
    }
}
