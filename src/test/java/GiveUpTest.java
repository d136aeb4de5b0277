/** Promise 4. */
public final class GiveUpTest {
    private static final Check check = new Check();

    public static void main(String[] args) {
        for (int kind = Check.PUT; kind <= Check.NEXT; kind++) {
            waitingOneGivesUp(kind);
        }
        whileItOpens();
        idleOneStaysAsItIs();
        wrongClients();
        check.end();
    }

    private static void waitingOneGivesUp(int kind) {
        boolean command = kind <= Check.REMOVE;
        PatronHall hall = Check.withSession(new PatronHall(), 6, 12);
        Check.asked(hall, 6, kind);
        check.due("giveUp", hall.giveUp(6), true);
        check.dueClient(hall, 6, 0, 0, command ? Check.NONE : 12, command ? 2 : 1, 3, 1, Check.NONE, 0, 0);
        check.dueHistory(hall, 1, 6, kind, 2, 3, command ? 2 : 3, Check.NONE);
        check.due("giveUp again", hall.giveUp(6), false);
        check.dueCounts(hall, 0, 2, 4, 3, 0, 0);
        check.due("no alarm is left", hall.tick(1000), 0);
    }

    private static void whileItOpens() {
        PatronHall hall = new PatronHall();
        Check.asked(hall, 0, Check.REMOVE);
        check.due("giveUp", hall.giveUp(0), true);
        check.dueClient(hall, 0, 0, 0, Check.NONE, 0, 1, 1, Check.NONE, 0, 0);
        check.dueHistory(hall, 0, 0, Check.REMOVE, 0, 1, 2, Check.NONE);
    }

    private static void idleOneStaysAsItIs() {
        PatronHall hall = Check.withSession(new PatronHall(), 1, 5);
        hall.feed(1, 1);
        check.due("giveUp of an idle one", hall.giveUp(1), false);
        check.due("giveUp of one never asked", hall.giveUp(2), false);
        check.dueClient(hall, 1, 0, 0, 5, 1, 2, 2, Check.NONE, 0, 0);
        check.dueCounts(hall, 0, 1, 2, 2, 0, 1);
        check.dueHistory(hall, 0, 1, Check.PUT, 0, 1, 1, 6);
    }

    private static void wrongClients() {
        PatronHall hall = new PatronHall();
        for (int client : new int[] {-1, 8, Integer.MIN_VALUE, Integer.MAX_VALUE}) {
            check.dueNoIndex("giveUp(" + client + ")", () -> hall.giveUp(client));
        }
    }
}
