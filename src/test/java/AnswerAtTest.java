/** Promise 11. */
public final class AnswerAtTest {
    private static final Check check = new Check();

    public static void main(String[] args) {
        valuesAre0To255();
        longestAnswer();
        bytesOfTheLatest();
        theTapeIsAnother();
        noSuchByte();
        noSuchClient();
        lookingChangesNothing();
        check.end();
    }

    /** "Byte i (its value is 0 .. 255) of it". */
    private static void valuesAre0To255() {
        for (int start = 0; start < 256; start += 128) {
            PatronHall hall = Scenes.asked(3, Check.GET).hall();
            int[] wants = new int[128];
            for (int i = 0; i < 128; i++) {
                wants[i] = start + i;
                hall.feed(start + i, 1);
            }
            hall.reply(3, 1, 0, 1);
            check.dueAnswer(hall, 3, wants);
        }
    }

    private static void longestAnswer() {
        PatronHall hall = Scenes.asked(3, Check.NEXT).then(Scenes.fedWith(134)).hall();
        hall.reply(3, 1, 0, 1);
        int[] wants = new int[134];
        for (int i = 0; i < 134; i++) {
            wants[i] = i + 1;
        }
        check.dueAnswer(hall, 3, wants);
        check.dueAnswer(hall, 4);
    }

    /** A shorter answer leaves nothing of a longer one; an empty one has no byte; a longer one is whole again. */
    private static void bytesOfTheLatest() {
        PatronHall hall = Scenes.asked(0, Check.GET).then(Scenes.fedWith(9)).hall();
        hall.reply(0, 1, 0, 1);
        Check.asked(hall, 0, Check.GET);
        hall.feed(0x80ff, 2);
        hall.reply(0, 2, 0, 1);
        check.dueAnswer(hall, 0, 255, 128);
        Check.asked(hall, 0, Check.GET);
        hall.reply(0, 3, 0, 1);
        check.dueAnswer(hall, 0);
        Check.asked(hall, 0, Check.GET);
        Check.fed(hall, 3).reply(0, 4, 0, 1);
        check.dueAnswer(hall, 0, 1, 2, 3);
        Check.asked(hall, 0, Check.GET);
        hall.giveUp(0);
        check.dueAnswer(hall, 0, 1, 2, 3);
    }

    /** Neither a later tape nor another client's answer changes it. */
    private static void theTapeIsAnother() {
        PatronHall hall = Scenes.asked(0, Check.GET).then(Scenes.asked(1, Check.GET)).then(Scenes.fedWith(3)).hall();
        hall.reply(0, 1, 0, 1);
        hall.feed(-1, 8);
        check.dueAnswer(hall, 0, 1, 2, 3);
        hall.reply(1, 1, 0, 1);
        check.dueAnswer(hall, 0, 1, 2, 3);
    }

    /** "IndexOutOfBoundsException, when there is no such .. byte". */
    private static void noSuchByte() {
        check.due("the last byte", Scenes.BUSY.hall().answerAt(0, 2), 3);
        for (int client = 0; client < 8; client++) {
            int c = client;
            int size = c == 0 ? 3 : 0;
            for (int i : new int[] {-1, size, size + 1, 133, 134, 135, Integer.MIN_VALUE, Integer.MAX_VALUE}) {
                check.refusedForIndex("answerAt(" + c + ", " + i + ")", Scenes.BUSY_WITH_TAPE,
                        hall -> hall.answerAt(c, i));
            }
        }
    }

    /** "IndexOutOfBoundsException, when there is no such client". */
    private static void noSuchClient() {
        for (int client : new int[] {0, 7}) {
            PatronHall hall = Scenes.asked(client, Check.GET).then(Scenes.fedWith(1)).hall();
            hall.reply(client, 1, 0, 1);
            check.dueAnswer(hall, client, 1);
        }
        for (int client : Check.NO_CLIENTS) {
            for (int i : new int[] {-1, 0, 1}) {
                check.refusedForIndex("answerAt(" + client + ", " + i + ")", Scenes.BUSY_WITH_TAPE,
                        hall -> hall.answerAt(client, i));
            }
        }
    }

    private static void lookingChangesNothing() {
        check.dueSame("answerAt(0, 2)", Scenes.BUSY_WITH_TAPE, Scenes.BUSY_WITH_TAPE.then(hall -> hall.answerAt(0, 2)));
    }
}
