/** Promise 1, and how long an object is good for. */
public final class NewObjectTest {
    private static final Check check = new Check();

    public static void main(String[] args) {
        allClientsAreIdle();
        nobodyAskedAnything();
        objectsAreApart();
        goodFor512Calls();
        longestTime();
        check.end();
    }

    /** "All clients are idle". */
    private static void allClientsAreIdle() {
        PatronHall hall = new PatronHall();
        for (int client = 0; client < 8; client++) {
            check.dueClient(hall, client, 0, 0, Check.NONE, 0, 0, 0, Check.NONE, 0, 0);
        }
        check.due("clients that wait", hall.count(4), 0);
        check.due("nothing rings", hall.tick(1000), 0);
        for (int client = 0; client < 8; client++) {
            check.due("giveUp(" + client + ")", new PatronHall().giveUp(client), false);
        }
    }

    /** "nobody asked anything". */
    private static void nobodyAskedAnything() {
        PatronHall hall = new PatronHall();
        check.dueCounts(hall, 0, 0, 0, 0, 0, 0);
        for (int client = 0; client < 8; client++) {
            check.dueAnswer(hall, client);
            check.dueData(hall, client);
        }
        for (int what = 0; what < 8; what++) {
            check.due("request(0, " + what + ")", hall.request(0, what), Check.NONE);
        }
        check.dueNoIndex("history(0, 0)", () -> hall.history(0, 0));
        check.due("the first asking", Check.asked(hall, 0, Check.GET), 0);
    }

    private static void objectsAreApart() {
        PatronHall other = new PatronHall();
        Scenes.BUSY_WITH_TAPE.hall();
        check.dueCounts(other, 0, 0, 0, 0, 0, 0);
        check.dueClient(other, 2, 0, 0, Check.NONE, 0, 0, 0, Check.NONE, 0, 0);
    }

    /** "An object is used for at most 512 calls": 170 times three, and the two of the last asking. */
    private static void goodFor512Calls() {
        PatronHall hall = new PatronHall();
        for (int i = 0; i < 170; i++) {
            check.due("feed", hall.feed(i, 1), 1);
            check.due("ask", hall.ask(i % 8, Check.GET, 1, 0), i);
            check.due("giveUp", hall.giveUp(i % 8), true);
        }
        check.due("the 511th call", hall.feed(1, 1), 1);
        check.due("the 512th call", hall.ask(7, Check.PUT, 1, 0), 170);
    }

    /** No run within the 512 calls has a later NOW. */
    private static void longestTime() {
        PatronHall hall = new PatronHall();
        for (int i = 0; i < 508; i++) {
            hall.tick(1000);
        }
        Check.asked(hall, 0, Check.GET);
        check.due("its alarm", hall.client(0, 6), 508060);
        check.due("NOW", hall.count(0), 508000);
    }
}
