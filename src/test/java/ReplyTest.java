/** Promise 5. */
public final class ReplyTest {
    private static final Check check = new Check();

    public static void main(String[] args) {
        openLeadsToTheCommand();
        doneIsTold();
        anotherLeads();
        nobodyLeads();
        sessionIsLost();
        serverIsBusy();
        repliesForNothing();
        fortyTriesAreAll();
        lastTryOpens();
        edgesOfValues();
        wrongReplies();
        check.end();
    }

    private static void openLeadsToTheCommand() {
        PatronHall hall = new PatronHall();
        Check.fed(hall, 5).ask(2, Check.SWAP, 1, 2);
        hall.tick(3);
        Check.fed(hall, 9);
        check.due("reply to OPEN", hall.reply(2, 1, 0, 44), true);
        check.dueClient(hall, 2, 1, 0, 44, 1, 2, 2, 63, 1, 0);
        check.dueRequest(hall, 0, 2, 0, 2, Check.SWAP, 44, 1, 5, 3);
        check.dueHistory(hall, 0, 2, Check.SWAP, 0, Check.NONE, 0, Check.NONE);
        check.due("OPEN's answer is not told", hall.answer(2), 0);
        check.dueCounts(hall, 3, 1, 1, 2, 1, 0);
        check.due("a late reply to OPEN", hall.reply(2, 1, 0, 45), false);
        check.due("the session stays", hall.client(2, 2), 44);
    }

    private static void doneIsTold() {
        PatronHall hall = Check.withSession(new PatronHall(), 3, 1);
        Check.asked(hall, 3, Check.GET);
        Check.fed(hall, 2);
        check.due("reply", hall.reply(3, 3, 0, 1000000), true);
        check.dueClient(hall, 3, 0, 0, 1, 1, 3, 1, Check.NONE, 0, 0);
        check.dueHistory(hall, 1, 3, Check.GET, 2, 3, 1, 1000000);
        check.due("answer", hall.answer(3), 2);
        check.due("no alarm is left", hall.tick(1000), 0);
    }

    private static void anotherLeads() {
        PatronHall hall = new PatronHall();
        Check.asked(hall, 0, Check.PUT);
        hall.tick(10);
        check.due("reply", hall.reply(0, 1, 1, 6), true);
        check.dueClient(hall, 0, 1, 6, Check.NONE, 0, 1, 2, 70, 1, 1);
        check.dueRequest(hall, 0, 0, 6, 1, Check.OPEN, Check.NONE, 0, 0, 10);
        check.due("the same server again", hall.reply(0, 1, 1, 6), true);
        check.dueClient(hall, 0, 1, 6, Check.NONE, 0, 1, 3, 70, 1, 1);
        check.due("server 0", hall.reply(0, 1, 1, 0), true);
        check.dueClient(hall, 0, 1, 0, Check.NONE, 0, 1, 4, 70, 1, 1);
        check.due("requests", hall.count(3), 4);
    }

    private static void nobodyLeads() {
        PatronHall hall = new PatronHall();
        Check.asked(hall, 0, Check.GET);
        hall.reply(0, 1, 1, 5);
        hall.tick(2);
        check.due("reply", hall.reply(0, 1, 1, Check.NONE), true);
        check.dueClient(hall, 0, 1, 6, Check.NONE, 0, 1, 2, 7, 0, 0);
        check.due("nothing is requested yet", hall.count(3), 2);
        check.due("reply again", hall.reply(0, 1, 1, Check.NONE), true);
        check.dueClient(hall, 0, 1, 0, Check.NONE, 0, 1, 2, 7, 0, 0);
        check.due("its alarm is one", hall.tick(5), 1);
        check.dueRequest(hall, 0, 0, 0, 1, Check.GET, Check.NONE, 0, 1, 7);
        check.dueClient(hall, 0, 1, 0, Check.NONE, 0, 1, 3, 67, 1, 0);
    }

    private static void sessionIsLost() {
        for (int kind = Check.PUT; kind <= Check.NEXT; kind++) {
            PatronHall hall = Check.withSession(new PatronHall(), 4, 8);
            Check.asked(hall, 4, kind);
            int serial = hall.client(4, 3);
            check.due("reply", hall.reply(4, 3, 2, 0), true);
            check.dueClient(hall, 4, 0, 0, Check.NONE, serial, 3, 1, Check.NONE, 0, 0);
            check.dueHistory(hall, 1, 4, kind, 2, 3, 2, Check.NONE);
        }
        PatronHall hall = new PatronHall();
        Check.asked(hall, 4, Check.PUT);
        check.due("reply to OPEN", hall.reply(4, 1, 2, 0), true);
        check.dueClient(hall, 4, 0, 0, Check.NONE, 0, 1, 1, Check.NONE, 0, 0);
        check.dueHistory(hall, 0, 4, Check.PUT, 0, 1, 2, Check.NONE);
    }

    private static void serverIsBusy() {
        PatronHall hall = new PatronHall();
        Check.asked(hall, 0, Check.PUT);
        hall.tick(59);
        check.due("reply", hall.reply(0, 1, 3, 0), true);
        check.dueClient(hall, 0, 1, 0, Check.NONE, 0, 1, 1, 79, 0, 1);
        check.due("too early", hall.tick(19), 0);
        check.due("in time", hall.tick(1), 1);
        check.dueClient(hall, 0, 1, 0, Check.NONE, 0, 1, 2, 139, 1, 1);
    }

    private static void repliesForNothing() {
        PatronHall hall = new PatronHall();
        check.due("idle, number 0", hall.reply(0, 0, 0, 1), false);
        Check.asked(hall, 0, Check.GET);
        for (int request : new int[] {0, 2, -1, Integer.MIN_VALUE, Integer.MAX_VALUE}) {
            Check.fed(hall, 1);
            check.due("another number", hall.reply(0, request, 0, 1), false);
            check.due("the tape is empty", hall.count(5), 0);
            check.due("another number", hall.reply(0, request, 1, 3), false);
            check.due("another number", hall.reply(0, request, 2, 0), false);
            check.due("another number", hall.reply(0, request, 3, 0), false);
        }
        check.dueClient(hall, 0, 1, 0, Check.NONE, 0, 1, 1, 60, 1, 0);
        check.due("the right number", hall.reply(0, 1, 0, 1), true);
        check.due("idle again", hall.reply(0, 1, 2, 0), false);
        check.due("idle again", hall.reply(0, 1, 1, 3), false);
        check.due("idle again", hall.reply(0, 1, 3, 0), false);
        check.dueClient(hall, 0, 0, 0, Check.NONE, 0, 1, 1, Check.NONE, 0, 0);
        check.dueHistory(hall, 0, 0, Check.GET, 0, 1, 1, 1);
    }

    private static void fortyTriesAreAll() {
        for (int kind : new int[] {Check.PUT, Check.GET}) {
            boolean command = kind == Check.PUT;
            PatronHall hall = Check.withSession(new PatronHall(), 0, 9);
            Check.asked(hall, 0, kind);
            for (int i = 2; i <= 40; i++) {
                hall.reply(0, 3, 1, i % 7);
            }
            check.dueClient(hall, 0, 1, 5, 9, command ? 2 : 1, 3, 40, 60, 1, 0);
            check.due("requests", hall.count(3), 42);
            check.due("the reply that is too much", hall.reply(0, 3, 1, 2), true);
            check.dueClient(hall, 0, 0, 2, command ? Check.NONE : 9, command ? 2 : 1, 3, 41, Check.NONE, 0, 0);
            check.due("requests", hall.count(3), 42);
            check.dueHistory(hall, 1, 0, kind, 2, 3, command ? 2 : 3, Check.NONE);
            Check.asked(hall, 0, kind);
            check.due("tries begin anew", hall.client(0, 5), 1);
        }
    }

    /** Tries count on from OPEN to its command, so OPEN told at the 40th leaves none. */
    private static void lastTryOpens() {
        PatronHall hall = new PatronHall();
        Check.asked(hall, 0, Check.PUT);
        for (int i = 2; i <= 40; i++) {
            hall.reply(0, 1, 1, 4);
        }
        check.due("reply to OPEN", hall.reply(0, 1, 0, 3), true);
        check.dueClient(hall, 0, 0, 4, Check.NONE, 1, 2, 41, Check.NONE, 0, 0);
        check.dueHistory(hall, 0, 0, Check.PUT, 0, 1, 2, Check.NONE);
        check.due("requests", hall.count(3), 40);
    }

    private static void edgesOfValues() {
        for (int[] edge : new int[][] {{0, 1, 0}, {0, 1000000, 134}, {1, Check.NONE, 0}, {1, 0, 0}, {1, 6, 0}, {2, 0, 0}, {3, 0, 0}}) {
            PatronHall hall = new PatronHall();
            Check.asked(hall, 7, Check.NEXT);
            Check.fed(hall, edge[2]);
            check.due("reply " + edge[0] + " " + edge[1], hall.reply(7, 1, edge[0], edge[1]), true);
            check.due("the tape is empty", hall.count(5), 0);
        }
    }

    private static void wrongReplies() {
        int[][] faults = {
            {0, 0, 0}, {0, 1000001, 0}, {0, -1, 0}, {0, Integer.MIN_VALUE, 0}, {0, 5, 135}, {0, 5, 240},
            {1, 7, 0}, {1, -2, 0}, {1, 3, 1}, {1, Check.NONE, 1},
            {2, 1, 0}, {2, -1, 0}, {2, 0, 1}, {3, 1, 0}, {3, -1, 0}, {3, 0, 1},
            {4, 0, 0}, {-1, 0, 0}, {Integer.MAX_VALUE, 1, 0}, {Integer.MIN_VALUE, 1, 0}};
        for (int[] fault : faults) {
            PatronHall hall = new PatronHall();
            Check.asked(hall, 7, Check.GET);
            refused(hall, 7, 1, fault);
            refused(hall, 7, 2, fault);
            refused(hall, 6, 0, fault);
            check.dueClient(hall, 7, 1, 0, Check.NONE, 0, 1, 1, 60, 1, 0);
            for (int client : new int[] {-1, 8, Integer.MIN_VALUE, Integer.MAX_VALUE}) {
                Check.fed(hall, fault[2]);
                check.dueNoIndex("reply to " + client, () -> hall.reply(client, 1, fault[0], fault[1]));
                check.due("the tape is empty", hall.count(5), 0);
                check.dueNoIndex("reply to " + client, () -> hall.reply(client, 1, 3, 0));
            }
        }
    }

    private static void refused(PatronHall hall, int client, int request, int[] fault) {
        Check.fed(hall, fault[2]);
        check.dueNoArgument("reply " + fault[0] + " " + fault[1] + " with " + fault[2],
                () -> hall.reply(client, request, fault[0], fault[1]));
        check.due("the tape is empty", hall.count(5), 0);
    }
}
