/** Terms: what a client does that is asked something. */
public final class TermsAskedTest {
    private static final Check check = new Check();

    public static void main(String[] args) {
        triesBeginAnew();
        commandsAskForASessionFirst();
        readsAskForNone();
        placeOfOpenIsTheSession();
        serialBeginsAnewInASession();
        serialIsOneMoreForEachCommand();
        readsLeaveTheSerial();
        numberIsOneMore();
        check.end();
    }

    /** "ASKED something, it waits, TRIES are 0", and the first request makes them 1, whatever they were before. */
    private static void triesBeginAnew() {
        for (int kind : new int[] {Check.PUT, Check.GET}) {
            PatronHall hall = Scenes.asked(0, kind).then(Scenes.triesUpTo(0, 40)).hall();
            hall.tick(60);
            check.due("idle", hall.client(0, 0), 0);
            check.due("TRIES of the latest asking", hall.client(0, 5), 41);
            Check.asked(hall, 0, kind);
            check.due("waits", hall.client(0, 0), 1);
            check.due("TRIES", hall.client(0, 5), 1);
        }
    }

    /** "Commands are PUT, SWAP, REMOVE. A command without a session: it requests OPEN first". */
    private static void commandsAskForASessionFirst() {
        for (int kind : Check.COMMANDS) {
            PatronHall hall = Scenes.asked(3, kind).hall();
            check.dueClient(hall, 3, 1, 0, Check.NONE, 0, 1, 1, 60, 1, 1);
            check.dueRequest(hall, 0, 3, 0, 1, Check.OPEN, Check.NONE, 0, 0, 0);
            check.due("requests", hall.count(3), 1);
        }
    }

    /** The others are no commands. */
    private static void readsAskForNone() {
        for (int kind : Check.READS) {
            PatronHall hall = Scenes.asked(3, kind).hall();
            check.dueClient(hall, 3, 1, 0, Check.NONE, 0, 1, 1, 60, 1, 0);
            check.due("the request's kind", hall.request(0, 3), kind);
            check.due("requests", hall.count(3), 1);
        }
    }

    /** "told its place, that is its session", from the first place to the last. */
    private static void placeOfOpenIsTheSession() {
        for (int place : new int[] {1, 2, 999999, 1000000}) {
            PatronHall hall = Scenes.asked(3, Check.PUT).hall();
            check.due("reply to OPEN", hall.reply(3, 1, 0, place), true);
            check.dueClient(hall, 3, 1, 0, place, 1, 2, 2, 60, 1, 0);
            check.dueRequest(hall, 0, 3, 0, 2, Check.PUT, place, 1, 1, 0);
            hall.reply(3, 2, 0, 7);
            Check.asked(hall, 3, Check.PUT);
            check.dueClient(hall, 3, 1, 0, place, 2, 3, 1, 60, 1, 0);
            check.dueRequest(hall, 0, 3, 0, 3, Check.PUT, place, 2, 1, 0);
        }
    }

    /** "told its place, that is its session, SERIAL 0; then it requests the command, with SERIAL 1 more". */
    private static void serialBeginsAnewInASession() {
        Scene[] losses = {
            hall -> hall.reply(0, 5, 2, 0), hall -> hall.giveUp(0), Scenes.triesUpTo(0, 40).then(hall -> hall.tick(60))};
        for (Scene loss : losses) {
            PatronHall hall = Check.withSession(new PatronHall(), 0, 10);
            for (int number = 3; number <= 4; number++) {
                Check.asked(hall, 0, Check.PUT);
                hall.reply(0, number, 0, 20);
            }
            Check.asked(hall, 0, Check.PUT);
            check.due("SERIAL in the first session", hall.client(0, 3), 4);
            loss.play(hall);
            check.due("no session", hall.client(0, 2), Check.NONE);
            Check.asked(hall, 0, Check.SWAP);
            check.due("requests OPEN", hall.client(0, 8), 1);
            check.due("SERIAL of OPEN's request", hall.request(0, 5), 0);
            hall.reply(0, 6, 0, 30);
            check.due("the second session", hall.client(0, 2), 30);
            check.due("SERIAL in the second session", hall.client(0, 3), 1);
            check.due("the command's request number", hall.client(0, 4), 7);
        }
    }

    /** "a command with a session at once so". */
    private static void serialIsOneMoreForEachCommand() {
        PatronHall hall = Check.withSession(new PatronHall(), 0, 10);
        int serial = 1;
        for (int kind : Check.COMMANDS) {
            serial++;
            Check.asked(hall, 0, kind);
            check.dueClient(hall, 0, 1, 0, 10, serial, serial + 1, 1, 60, 1, 0);
            check.dueRequest(hall, 0, 0, 0, serial + 1, kind, 10, serial, 1, 0);
            hall.reply(0, serial + 1, 0, 20);
        }
    }

    /** "reads leave it". */
    private static void readsLeaveTheSerial() {
        PatronHall hall = Check.withSession(new PatronHall(), 0, 10);
        int number = 2;
        for (int kind : Check.READS) {
            number++;
            Check.asked(hall, 0, kind);
            check.dueClient(hall, 0, 1, 0, 10, 1, number, 1, 60, 1, 0);
            hall.reply(0, number, 0, 20);
            check.due("SERIAL", hall.client(0, 3), 1);
        }
        Check.asked(hall, 0, Check.PUT);
        check.due("SERIAL of the next command", hall.client(0, 3), 2);
    }

    /** "Each of these has the request number 1 more": OPEN, command and read; what is requested again has the same. */
    private static void numberIsOneMore() {
        PatronHall hall = Scenes.asked(0, Check.PUT).hall();
        check.due("OPEN's", hall.client(0, 4), 1);
        hall.tick(60);
        hall.reply(0, 1, 1, 4);
        check.due("OPEN's, requested again", hall.client(0, 4), 1);
        hall.reply(0, 1, 0, 10);
        check.due("the command's", hall.client(0, 4), 2);
        hall.tick(60);
        check.due("the command's, requested again", hall.client(0, 4), 2);
        hall.giveUp(0);
        check.due("given up", hall.client(0, 4), 2);
        Check.asked(hall, 0, Check.GET);
        check.due("the read's", hall.client(0, 4), 3);
        check.due("another client's", hall.client(1, 4), 0);
    }
}
