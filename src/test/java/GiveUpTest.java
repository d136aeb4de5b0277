/** Promise 4. */
public final class GiveUpTest {
    private static final Check check = new Check();

    public static void main(String[] args) {
        itGivesUp();
        whileItOpens();
        atItsLastTry();
        idleItStaysAsItIs();
        givenUpTwice();
        othersStayAsTheyAre();
        lateReplyIsNothing();
        noSuchClient();
        check.end();
    }

    /** "A client gives up: whether it waited". */
    private static void itGivesUp() {
        for (int kind = Check.PUT; kind <= Check.NEXT; kind++) {
            boolean command = Check.isCommand(kind);
            PatronHall hall = Scenes.waiting(6, kind, true).hall();
            check.due("giveUp", hall.giveUp(6), true);
            check.dueClient(hall, 6, 0, 0, command ? Check.NONE : 500, command ? 2 : 1, 3, 1, Check.NONE, 0, 0);
            check.dueHistory(hall, 1, 6, kind, 2, 3, command ? 2 : 3, Check.NONE);
            check.dueCounts(hall, 0, 2, 4, 3, 0, 0);
            check.due("no alarm is left", hall.tick(1000), 0);
        }
    }

    private static void whileItOpens() {
        for (int kind : Check.COMMANDS) {
            PatronHall hall = Scenes.asked(0, kind).hall();
            check.due("giveUp", hall.giveUp(0), true);
            check.dueClient(hall, 0, 0, 0, Check.NONE, 0, 1, 1, Check.NONE, 0, 0);
            check.dueHistory(hall, 0, 0, kind, 0, 1, 2, Check.NONE);
        }
    }

    /** At 40 tries it still waits, and giving up adds none; above it gave up by itself. */
    private static void atItsLastTry() {
        PatronHall hall = Scenes.asked(0, Check.GET).then(Scenes.triesUpTo(0, 40)).hall();
        check.due("giveUp at 40", hall.giveUp(0), true);
        check.due("TRIES", hall.client(0, 5), 40);
        PatronHall over = Scenes.asked(0, Check.GET).then(Scenes.triesUpTo(0, 41)).hall();
        check.due("giveUp above 40", over.giveUp(0), false);
        check.due("TRIES", over.client(0, 5), 41);
        check.due("moments", over.count(2), 2);
    }

    /** Told DONE, UNCLEAR, GIVEN UP, or never asked. */
    private static void idleItStaysAsItIs() {
        for (int client : new int[] {0, 5, 6, 7}) {
            check.due("giveUp(" + client + ")", Scenes.BUSY_WITH_TAPE.hall().giveUp(client), false);
            check.dueSame("giveUp(" + client + ")", Scenes.BUSY_WITH_TAPE,
                    Scenes.BUSY_WITH_TAPE.then(hall -> hall.giveUp(client)));
        }
    }

    private static void givenUpTwice() {
        for (int client = 1; client <= 4; client++) {
            Scene once = Scenes.BUSY_WITH_TAPE.then(giveUp(client));
            check.due("giveUp(" + client + ")", Scenes.BUSY_WITH_TAPE.hall().giveUp(client), true);
            check.due("giveUp(" + client + ") again", once.hall().giveUp(client), false);
            check.dueSame("giveUp(" + client + ") again", once, once.then(giveUp(client)));
        }
    }

    private static Scene giveUp(int client) {
        return hall -> hall.giveUp(client);
    }

    private static void othersStayAsTheyAre() {
        PatronHall hall = Scenes.BUSY_WITH_TAPE.hall();
        int rings = hall.count(4);
        hall.giveUp(3);
        check.due("clients that wait", hall.count(4), rings - 1);
        check.due("bytes on the tape", hall.count(5), 3);
        check.dueClient(hall, 2, 1, 0, 80, 2, 3, 1, 62, 1, 0);
        check.due("the others' alarms up to 63", hall.tick(60), 3);
    }

    private static void lateReplyIsNothing() {
        Scene scene = Scenes.waiting(0, Check.PUT, true).then(giveUp(0));
        check.due("a late reply", scene.hall().reply(0, 3, 0, 9), false);
        check.dueSame("a late reply", scene, scene.then(hall -> hall.reply(0, 3, 0, 9)));
    }

    /** "IndexOutOfBoundsException, when there is no such client". */
    private static void noSuchClient() {
        for (int client : new int[] {0, 7}) {
            check.due("giveUp(" + client + ")", Scenes.asked(client, Check.GET).hall().giveUp(client), true);
        }
        for (int client : Check.NO_CLIENTS) {
            check.refusedForIndex("giveUp(" + client + ")", Scenes.BUSY_WITH_TAPE, hall -> hall.giveUp(client));
        }
    }
}
