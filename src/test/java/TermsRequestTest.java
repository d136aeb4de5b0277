/** Terms: TO REQUEST. */
public final class TermsRequestTest {
    private static final Check check = new Check();

    public static void main(String[] args) {
        requestGoesToTheTarget();
        alarmIsIn60();
        fortiethGoesAndNext();
        lastTryByPatientAlarm();
        openToldAtThe39th();
        openToldAtThe40th();
        check.end();
    }

    /** "the request goes to the target", which stays from one asking to the next. */
    private static void requestGoesToTheTarget() {
        PatronHall hall = Scenes.asked(0, Check.GET).hall();
        hall.reply(0, 1, 1, 6);
        hall.reply(0, 1, 0, 9);
        Check.asked(hall, 0, Check.PUT);
        check.dueRequest(hall, 0, 0, 6, 2, Check.OPEN, Check.NONE, 0, 0, 0);
        check.due("TARGET", hall.client(0, 1), 6);
    }

    /** "its alarm is made for NOW + 60, to be IMPATIENT then". */
    private static void alarmIsIn60() {
        for (int start : new int[] {0, 1, 1000}) {
            for (int kind : new int[] {Check.PUT, Check.GET}) {
                PatronHall hall = new PatronHall();
                if (start > 0) {
                    hall.tick(start);
                }
                Check.asked(hall, 0, kind);
                check.due("when the alarm rings", hall.client(0, 6), start + 60);
                check.due("impatient", hall.client(0, 7), 1);
                check.due("59 later", hall.tick(59), 0);
                check.due("requests", hall.count(3), 1);
                check.due("60 later", hall.tick(1), 1);
                check.due("requests", hall.count(3), 2);
                check.due("when the next rings", hall.client(0, 6), start + 120);
            }
        }
    }

    /** "TRIES are 1 more; above 40 it GIVES UP": the 40th goes, the one behind it does not, for OPEN, commands, reads. */
    private static void fortiethGoesAndNext() {
        for (int kind = Check.PUT; kind <= Check.NEXT; kind++) {
            for (boolean inSession : new boolean[] {false, true}) {
                lastTries(kind, inSession, anotherLeads(3), 3, anotherLeads(5), 5);
                lastTries(kind, inSession, hall -> hall.tick(60), 1, hall -> hall.tick(60), 2);
            }
        }
    }

    private static Scene anotherLeads(int server) {
        return hall -> hall.reply(0, hall.client(0, 4), 1, server);
    }

    /** The target is another one first, and then the tries are looked at: so it is that one when it gave up. */
    private static void lastTries(int kind, boolean inSession, Scene again40, int target40, Scene again41, int target41) {
        boolean command = Check.isCommand(kind);
        int sentBefore = inSession ? 2 : 0;
        PatronHall hall = Scenes.waiting(0, kind, inSession).then(Scenes.triesUpTo(0, 39)).hall();
        int number = hall.client(0, 4);
        int serial = hall.client(0, 3);
        int session = hall.client(0, 2);
        check.due("requests of 39 tries", hall.count(3), sentBefore + 39);
        again40.play(hall);
        check.due("it waits", hall.client(0, 0), 1);
        check.due("TRIES", hall.client(0, 5), 40);
        check.due("the 40th goes", hall.count(3), sentBefore + 40);
        check.due("SESSION", hall.client(0, 2), session);
        check.due("TARGET", hall.client(0, 1), target40);
        again41.play(hall);
        check.dueClient(hall, 0, 0, target41, command ? Check.NONE : session, serial, number, 41, Check.NONE, 0, 0);
        check.due("no 41st goes", hall.count(3), sentBefore + 40);
        int asking = inSession ? 1 : 0;
        check.dueHistory(hall, asking, 0, kind, 2 * asking, 2 * asking + 1, command ? 2 : 3, Check.NONE);
    }

    /** An alarm that is not impatient leaves the target, and its 41st request gives up too. */
    private static void lastTryByPatientAlarm() {
        for (int code : new int[] {1, 3}) {
            int wait = code == 1 ? 5 : 20;
            int value = code == 1 ? Check.NONE : 0;
            PatronHall hall = Scenes.waiting(0, Check.GET, true).then(Scenes.triesUpTo(0, 39)).hall();
            hall.reply(0, 3, code, value);
            check.due("the 40th", hall.tick(wait), 1);
            check.due("it waits", hall.client(0, 0), 1);
            hall.reply(0, 3, code, value);
            check.due("at 40 it still waits", hall.client(0, 0), 1);
            check.due("TRIES", hall.client(0, 5), 40);
            check.due("the one behind it", hall.tick(wait), 1);
            check.dueClient(hall, 0, 0, code == 1 ? 2 : 0, 500, 1, 3, 41, Check.NONE, 0, 0);
            check.due("requests", hall.count(3), 42);
        }
    }

    /** The command's request is one more of the same asking, so the tries count on from OPEN's. */
    private static void openToldAtThe39th() {
        PatronHall hall = Scenes.asked(0, Check.PUT).then(Scenes.triesUpTo(0, 39)).hall();
        check.due("reply to OPEN", hall.reply(0, 1, 0, 3), true);
        check.dueClient(hall, 0, 1, 0, 3, 1, 2, 40, 60, 1, 0);
        check.dueRequest(hall, 0, 0, 0, 2, Check.PUT, 3, 1, 1, 0);
        check.due("requests", hall.count(3), 40);
        check.due("and it can be done", hall.reply(0, 2, 0, 4), true);
        check.dueHistory(hall, 0, 0, Check.PUT, 0, 1, 1, 4);
    }

    private static void openToldAtThe40th() {
        PatronHall hall = Scenes.asked(0, Check.PUT).then(Scenes.triesUpTo(0, 40)).hall();
        check.due("reply to OPEN", hall.reply(0, 1, 0, 3), true);
        check.dueClient(hall, 0, 0, 0, Check.NONE, 1, 2, 41, Check.NONE, 0, 0);
        check.dueHistory(hall, 0, 0, Check.PUT, 0, 1, 2, Check.NONE);
        check.due("requests", hall.count(3), 40);
        check.due("no alarm", hall.tick(1000), 0);
    }
}
