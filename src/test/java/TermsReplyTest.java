/** Terms: A REPLY. */
public final class TermsReplyTest {
    private static final Check check = new Check();
    /** Code and value of one reply of each kind. */
    private static final int[][] REPLIES = {{0, 5}, {1, 4}, {1, Check.NONE}, {2, 0}, {3, 0}};

    public static void main(String[] args) {
        anotherNumberIsNothing();
        numberOfOpenIsOverBehindIt();
        idleIsNothing();
        itGoesOnFromOpen();
        itIsToldDone();
        thatServerIsTheTarget();
        nextServerForNone();
        alarmIn5ForNone();
        noSessionAnyMore();
        alarmIn20();
        check.end();
    }

    /** "A REPLY for another request number .. is nothing": one less, one more, far off. */
    private static void anotherNumberIsNothing() {
        for (int[] reply : REPLIES) {
            for (int client = 1; client <= 4; client++) {
                int own = Scenes.BUSY.hall().client(client, 4);
                for (int number : new int[] {own - 1, own + 1, -own, Integer.MIN_VALUE, Integer.MAX_VALUE}) {
                    isNothing(client, number, reply);
                }
            }
        }
    }

    /** OPEN's number is another one as soon as the command is requested. */
    private static void numberOfOpenIsOverBehindIt() {
        Scene scene = Scenes.asked(0, Check.PUT).then(hall -> hall.reply(0, 1, 0, 44));
        check.due("a second reply to OPEN", scene.hall().reply(0, 1, 0, 45), false);
        check.dueSame("a second reply to OPEN", scene, scene.then(hall -> hall.reply(0, 1, 0, 45)));
    }

    /** "or while it is idle, is nothing": told DONE, UNCLEAR, GIVEN UP, or never asked (its number is 0 then). */
    private static void idleIsNothing() {
        for (int[] reply : REPLIES) {
            for (int client : new int[] {0, 5, 6, 7}) {
                isNothing(client, Scenes.BUSY.hall().client(client, 4), reply);
            }
        }
    }

    private static void isNothing(int client, int number, int[] reply) {
        String call = "reply(" + client + ", " + number + ", " + reply[0] + ", " + reply[1] + ")";
        check.due(call, Scenes.BUSY.hall().reply(client, number, reply[0], reply[1]), false);
        check.dueSame(call, Scenes.BUSY, Scenes.BUSY.then(hall -> hall.reply(client, number, reply[0], reply[1])));
    }

    /** "0 (a place, an answer): it goes on from OPEN": nothing is told, and the tape is no answer. */
    private static void itGoesOnFromOpen() {
        PatronHall hall = Scenes.fedWith(5).then(h -> h.ask(2, Check.SWAP, 1, 2)).then(h -> h.tick(3)).hall();
        Check.fed(hall, 134);
        check.due("reply to OPEN", hall.reply(2, 1, 0, 44), true);
        check.dueClient(hall, 2, 1, 0, 44, 1, 2, 2, 63, 1, 0);
        check.dueRequest(hall, 0, 2, 0, 2, Check.SWAP, 44, 1, 5, 3);
        check.dueHistory(hall, 0, 2, Check.SWAP, 0, Check.NONE, 0, Check.NONE);
        check.dueAnswer(hall, 2);
        check.dueData(hall, 2, 1, 2, 3, 4, 5);
        check.dueCounts(hall, 3, 1, 1, 2, 1, 0);
    }

    /** "or it is told: DONE": each kind, with its place and its answer; the session stays. */
    private static void itIsToldDone() {
        for (int kind = Check.PUT; kind <= Check.NEXT; kind++) {
            PatronHall hall = Scenes.waiting(3, kind, true).hall();
            Check.fed(hall, 2);
            check.due("reply", hall.reply(3, 3, 0, 77), true);
            check.dueClient(hall, 3, 0, 0, 500, Check.isCommand(kind) ? 2 : 1, 3, 1, Check.NONE, 0, 0);
            check.dueHistory(hall, 1, 3, kind, 2, 3, 1, 77);
            check.dueAnswer(hall, 3, 1, 2);
            check.due("no alarm is left", hall.tick(1000), 0);
        }
    }

    /** "1 (a server or NONE): the target is that server, and it requests again", be it the target already. */
    private static void thatServerIsTheTarget() {
        for (int from = 0; from <= 6; from++) {
            for (int to = 0; to <= 6; to++) {
                PatronHall hall = Scenes.asked(0, Check.PUT).hall();
                hall.reply(0, 1, 1, from);
                hall.tick(10);
                check.due("reply", hall.reply(0, 1, 1, to), true);
                check.dueClient(hall, 0, 1, to, Check.NONE, 0, 1, 3, 70, 1, 1);
                check.dueRequest(hall, 0, 0, to, 1, Check.OPEN, Check.NONE, 0, 0, 10);
                check.due("requests", hall.count(3), 3);
            }
        }
    }

    /** "for NONE the next server (behind 6 comes 0) is the target"; it does not request at once. */
    private static void nextServerForNone() {
        for (int from = 0; from <= 6; from++) {
            PatronHall hall = Scenes.asked(0, Check.GET).hall();
            hall.reply(0, 1, 1, from);
            int next = from == 6 ? 0 : from + 1;
            check.due("reply", hall.reply(0, 1, 1, Check.NONE), true);
            check.dueClient(hall, 0, 1, next, Check.NONE, 0, 1, 2, 5, 0, 0);
            check.due("requests", hall.count(3), 2);
            check.due("reply again", hall.reply(0, 1, 1, Check.NONE), true);
            check.due("TARGET", hall.client(0, 1), next == 6 ? 0 : next + 1);
        }
    }

    /** "and its alarm is made for NOW + 5": the target stays as it rings. */
    private static void alarmIn5ForNone() {
        for (int from : new int[] {0, 5, 6}) {
            PatronHall hall = Scenes.asked(0, Check.GET).then(h -> h.reply(0, 1, 1, from)).then(h -> h.tick(59)).hall();
            hall.reply(0, 1, 1, Check.NONE);
            int next = from == 6 ? 0 : from + 1;
            check.dueClient(hall, 0, 1, next, Check.NONE, 0, 1, 2, 64, 0, 0);
            check.due("4 later", hall.tick(4), 0);
            check.due("5 later", hall.tick(1), 1);
            check.dueClient(hall, 0, 1, next, Check.NONE, 0, 1, 3, 124, 1, 0);
            check.dueRequest(hall, 0, 0, next, 1, Check.GET, Check.NONE, 0, 1, 64);
        }
    }

    /** "2: it has no session any more, and is told: UNCLEAR", whatever it waits for, the first time or again. */
    private static void noSessionAnyMore() {
        for (int kind = Check.PUT; kind <= Check.NEXT; kind++) {
            for (boolean inSession : new boolean[] {false, true}) {
                PatronHall hall = Scenes.waiting(4, kind, inSession).then(Scenes.triesUpTo(4, 40)).hall();
                int serial = hall.client(4, 3);
                int number = hall.client(4, 4);
                int asking = inSession ? 1 : 0;
                check.due("reply", hall.reply(4, number, 2, 0), true);
                check.dueClient(hall, 4, 0, 0, Check.NONE, serial, number, 40, Check.NONE, 0, 0);
                check.dueHistory(hall, asking, 4, kind, 2 * asking, 2 * asking + 1, 2, Check.NONE);
                check.due("no alarm is left", hall.tick(1000), 0);
            }
        }
    }

    /** "3: its alarm is made for NOW + 20": all else stays, and the target too as it rings. */
    private static void alarmIn20() {
        for (int start : new int[] {0, 59}) {
            for (int from : new int[] {0, 6}) {
                PatronHall hall = Scenes.asked(0, Check.PUT).then(h -> h.reply(0, 1, 1, from)).hall();
                if (start > 0) {
                    hall.tick(start);
                }
                check.due("reply", hall.reply(0, 1, 3, 0), true);
                check.dueClient(hall, 0, 1, from, Check.NONE, 0, 1, 2, start + 20, 0, 1);
                check.due("requests", hall.count(3), 2);
                check.due("19 later", hall.tick(19), 0);
                check.due("20 later", hall.tick(1), 1);
                check.dueClient(hall, 0, 1, from, Check.NONE, 0, 1, 3, start + 80, 1, 1);
            }
        }
    }
}
