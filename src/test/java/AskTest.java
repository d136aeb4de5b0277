/** Promise 3. */
public final class AskTest {
    private static final Check check = new Check();

    public static void main(String[] args) {
        edgesOfPut();
        edgesOfSwap();
        edgesOfKeysAlone();
        edgesOfCount();
        wrongKinds();
        wrongClients();
        waitingClientsAreNotAsked();
        atMost1024();
        orderOfFaults();
        whatAskingDoes();
        check.end();
    }

    private static void taken(int kind, int k, int v, int size) {
        PatronHall hall = Check.fed(new PatronHall(), size);
        check.due("ask " + kind + " " + k + " " + v + " of " + size, hall.ask(7, kind, k, v), 0);
        check.dueCounts(hall, 0, 1, 1, 1, 1, 0);
    }

    private static void refused(int kind, int k, int v, int size) {
        PatronHall hall = Check.fed(new PatronHall(), size);
        check.dueNoArgument("ask " + kind + " " + k + " " + v + " of " + size, () -> hall.ask(7, kind, k, v));
        check.dueCounts(hall, 0, 0, 0, 0, 0, 0);
        check.dueNoIndex("dataAt behind a refused ask", () -> hall.dataAt(7, 0));
    }

    private static void edgesOfPut() {
        taken(Check.PUT, 1, 0, 1);
        taken(Check.PUT, 32, 0, 32);
        taken(Check.PUT, 1, 0, 101);
        taken(Check.PUT, 32, 0, 132);
        refused(Check.PUT, 0, 0, 1);
        refused(Check.PUT, 33, 0, 40);
        refused(Check.PUT, 1, 0, 102);
        refused(Check.PUT, 2, 0, 1);
        refused(Check.PUT, 1, 0, 0);
        refused(Check.PUT, 1, 1, 3);
        refused(Check.PUT, 1, -1, 3);
    }

    private static void edgesOfSwap() {
        taken(Check.SWAP, 1, 0, 1);
        taken(Check.SWAP, 1, 100, 101);
        taken(Check.SWAP, 1, 0, 101);
        taken(Check.SWAP, 32, 100, 232);
        refused(Check.SWAP, 0, 0, 1);
        refused(Check.SWAP, 33, 0, 33);
        refused(Check.SWAP, 1, 101, 102);
        refused(Check.SWAP, 1, -1, 3);
        refused(Check.SWAP, 1, 3, 3);
        refused(Check.SWAP, 1, 0, 102);
        refused(Check.SWAP, 32, 100, 233);
        refused(Check.SWAP, Integer.MIN_VALUE, Integer.MAX_VALUE, 1);
        refused(Check.SWAP, Integer.MAX_VALUE, Integer.MAX_VALUE, 1);
        refused(Check.SWAP, 1, Integer.MIN_VALUE, 1);
    }

    private static void edgesOfKeysAlone() {
        for (int kind : new int[] {Check.REMOVE, Check.GET, Check.NEXT}) {
            taken(kind, 1, 0, 1);
            taken(kind, 32, 0, 32);
            refused(kind, 0, 0, 0);
            refused(kind, 33, 0, 33);
            refused(kind, 2, 0, 3);
            refused(kind, 3, 0, 2);
            refused(kind, 2, 1, 3);
            refused(kind, -1, 0, 1);
        }
    }

    private static void edgesOfCount() {
        taken(Check.COUNT, 1, 0, 2);
        taken(Check.COUNT, 32, 0, 64);
        taken(Check.COUNT, 1, 0, 33);
        refused(Check.COUNT, 1, 0, 1);
        refused(Check.COUNT, 0, 0, 1);
        refused(Check.COUNT, 1, 0, 34);
        refused(Check.COUNT, 33, 0, 40);
        refused(Check.COUNT, 1, 1, 3);
    }

    private static void wrongKinds() {
        for (int kind : new int[] {-1, 6, 7, Integer.MIN_VALUE, Integer.MAX_VALUE}) {
            refused(kind, 1, 0, 1);
        }
    }

    private static void wrongClients() {
        for (int client : new int[] {-1, 8, Integer.MIN_VALUE, Integer.MAX_VALUE}) {
            PatronHall hall = Check.fed(new PatronHall(), 1);
            check.dueNoIndex("ask of client " + client, () -> hall.ask(client, Check.GET, 1, 0));
            check.dueCounts(hall, 0, 0, 0, 0, 0, 0);
        }
    }

    private static void waitingClientsAreNotAsked() {
        PatronHall hall = new PatronHall();
        Check.asked(hall, 2, Check.GET);
        Check.fed(hall, 4);
        check.dueNoState("ask of one who waits", () -> hall.ask(2, Check.GET, 4, 0));
        check.dueCounts(hall, 0, 1, 1, 1, 1, 0);
        check.dueClient(hall, 2, 1, 0, Check.NONE, 0, 1, 1, 60, 1, 0);
        check.dueNoIndex("dataAt keeps the first asking", () -> hall.dataAt(2, 1));
        check.due("ask of another", Check.asked(hall, 3, Check.GET), 1);
        hall.giveUp(2);
        check.due("ask of one who waited", Check.asked(hall, 2, Check.GET), 2);
    }

    /** Behind its 512th call an object is free to answer as it likes; this one keeps the limit still. */
    private static void atMost1024() {
        PatronHall hall = new PatronHall();
        for (int i = 0; i < 1024; i++) {
            check.due("ask " + i, Check.asked(hall, i % 8, Check.GET), i);
            hall.giveUp(i % 8);
        }
        Check.fed(hall, 1);
        check.dueNoState("ask 1024", () -> hall.ask(0, Check.GET, 1, 0));
        check.due("askings", hall.count(1), 1024);
    }

    private static void orderOfFaults() {
        PatronHall hall = new PatronHall();
        Check.asked(hall, 0, Check.GET);
        check.dueNoIndex("no client, no kind", () -> hall.ask(8, 9, 0, 5));
        check.dueNoArgument("waits, no kind", () -> hall.ask(0, 9, 1, 0));
    }

    private static void whatAskingDoes() {
        PatronHall hall = new PatronHall();
        hall.tick(11);
        check.due("the first ask", Check.asked(hall, 1, Check.PUT), 0);
        check.dueClient(hall, 1, 1, 0, Check.NONE, 0, 1, 1, 71, 1, 1);
        check.due("a read without a session", Check.asked(hall, 4, Check.COUNT), 1);
        check.dueClient(hall, 4, 1, 0, Check.NONE, 0, 1, 1, 71, 1, 0);
        for (int kind : new int[] {Check.PUT, Check.SWAP, Check.REMOVE}) {
            PatronHall other = Check.withSession(new PatronHall(), 5, 30);
            Check.asked(other, 5, kind);
            check.dueClient(other, 5, 1, 0, 30, 2, 3, 1, 60, 1, 0);
        }
        for (int kind : new int[] {Check.GET, Check.COUNT, Check.NEXT}) {
            PatronHall other = Check.withSession(new PatronHall(), 5, 30);
            Check.asked(other, 5, kind);
            check.dueClient(other, 5, 1, 0, 30, 1, 3, 1, 60, 1, 0);
        }
    }
}
