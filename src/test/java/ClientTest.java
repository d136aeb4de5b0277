/** Promise 7. */
public final class ClientTest {
    private static final Check check = new Check();

    public static void main(String[] args) {
        whatEachShows();
        triesAreOfTheLatestAsking();
        withoutAnAlarm();
        whetherItRequestsOpen();
        clientsAreApart();
        whatIs0To8();
        noSuchClient();
        lookingChangesNothing();
        check.end();
    }

    /** "Of a client: 1 if it waits, else 0 (0), TARGET (1), SESSION or NONE (2), .." in every state. */
    private static void whatEachShows() {
        PatronHall hall = Scenes.BUSY.hall();
        check.dueClient(hall, 0, 0, 0, 70, 2, 3, 1, Check.NONE, 0, 0);
        check.dueClient(hall, 1, 1, 0, Check.NONE, 0, 1, 1, 62, 1, 1);
        check.dueClient(hall, 2, 1, 0, 80, 2, 3, 1, 62, 1, 0);
        check.dueClient(hall, 3, 1, 0, Check.NONE, 0, 1, 2, 7, 0, 0);
        check.dueClient(hall, 4, 1, 0, Check.NONE, 0, 1, 1, 22, 0, 0);
        check.dueClient(hall, 5, 0, 0, Check.NONE, 2, 3, 1, Check.NONE, 0, 0);
        check.dueClient(hall, 6, 0, 0, 95, 1, 3, 1, Check.NONE, 0, 0);
        check.dueClient(hall, 7, 0, 0, Check.NONE, 0, 0, 0, Check.NONE, 0, 0);
    }

    /** "TRIES (5; of its latest asking)": they stay when it is told. */
    private static void triesAreOfTheLatestAsking() {
        for (int tries : new int[] {1, 2, 39, 40}) {
            Scene tried = Scenes.asked(0, Check.GET).then(Scenes.triesUpTo(0, tries));
            check.due("TRIES", tried.hall().client(0, 5), tries);
            PatronHall hall = tried.then(h -> h.reply(0, 1, 0, 1)).hall();
            check.due("TRIES when it is told", hall.client(0, 5), tries);
            Check.asked(hall, 0, Check.GET);
            check.due("TRIES when it is asked anew", hall.client(0, 5), 1);
        }
    }

    /** "when its alarm rings, or NONE (6)", and "0 without an alarm" (7). */
    private static void withoutAnAlarm() {
        PatronHall hall = new PatronHall();
        check.due("never asked: its alarm", hall.client(0, 6), Check.NONE);
        check.due("never asked: impatient", hall.client(0, 7), 0);
        Check.asked(hall, 0, Check.GET);
        check.due("asked: its alarm", hall.client(0, 6), 60);
        check.due("asked: impatient", hall.client(0, 7), 1);
        hall.giveUp(0);
        check.due("told: its alarm", hall.client(0, 6), Check.NONE);
        check.due("told: impatient", hall.client(0, 7), 0);
    }

    /** "whether it requests OPEN now (8)": from the asking to the place, and not when it is told. */
    private static void whetherItRequestsOpen() {
        PatronHall hall = Scenes.asked(0, Check.REMOVE).hall();
        check.due("asked", hall.client(0, 8), 1);
        hall.tick(60);
        check.due("requested again", hall.client(0, 8), 1);
        hall.reply(0, 1, 1, Check.NONE);
        check.due("nobody leads", hall.client(0, 8), 1);
        hall.reply(0, 1, 3, 0);
        check.due("the server is busy", hall.client(0, 8), 1);
        hall.reply(0, 1, 0, 5);
        check.due("it has its place", hall.client(0, 8), 0);
        Scene[] tellings = {h -> h.giveUp(0), h -> h.reply(0, 1, 2, 0), Scenes.triesUpTo(0, 41)};
        for (Scene telling : tellings) {
            check.due("told", Scenes.asked(0, Check.PUT).then(telling).hall().client(0, 8), 0);
        }
    }

    private static void clientsAreApart() {
        PatronHall hall = new PatronHall();
        for (int client = 0; client < 8; client++) {
            Check.asked(hall, client, client % 2 == 0 ? Check.PUT : Check.GET);
            hall.reply(client, 1, 1, client % 7);
            hall.tick(1);
        }
        for (int client = 0; client < 8; client++) {
            check.dueClient(hall, client, 1, client % 7, Check.NONE, 0, 1, 2, client + 60, 1, 1 - client % 2);
        }
    }

    /** "IndexOutOfBoundsException, when there is no such .. what". */
    private static void whatIs0To8() {
        PatronHall hall = Scenes.BUSY.hall();
        for (int client = 0; client < 8; client++) {
            int c = client;
            check.due("client(" + c + ", 8)", hall.client(c, 8), c == 1 ? 1 : 0);
            for (int what : new int[] {-1, 9, Integer.MIN_VALUE, Integer.MAX_VALUE}) {
                check.refusedForIndex("client(" + c + ", " + what + ")", Scenes.BUSY_WITH_TAPE, h -> h.client(c, what));
            }
        }
    }

    /** "IndexOutOfBoundsException, when there is no such client". */
    private static void noSuchClient() {
        for (int client : Check.NO_CLIENTS) {
            for (int what : new int[] {-1, 0, 8, 9}) {
                check.refusedForIndex("client(" + client + ", " + what + ")", Scenes.BUSY_WITH_TAPE,
                        hall -> hall.client(client, what));
            }
        }
    }

    private static void lookingChangesNothing() {
        for (int what = 0; what <= 8; what++) {
            int w = what;
            check.dueSame("client(1, " + w + ")", Scenes.BUSY_WITH_TAPE,
                    Scenes.BUSY_WITH_TAPE.then(hall -> hall.client(1, w)));
        }
    }
}
