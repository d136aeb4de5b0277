/** Promise 8. */
public final class RequestTest {
    private static final Check check = new Check();

    public static void main(String[] args) {
        whatIsKept();
        readsHaveNoSession();
        requestsStayAsTheyWent();
        only64();
        wrongInputs();
        check.end();
    }

    private static void whatIsKept() {
        PatronHall hall = new PatronHall();
        hall.tick(4);
        Check.fed(hall, 132).ask(6, Check.PUT, 32, 0);
        check.dueRequest(hall, 0, 6, 0, 1, Check.OPEN, Check.NONE, 0, 0, 4);
        hall.tick(1);
        hall.reply(6, 1, 1, 3);
        hall.tick(1);
        hall.reply(6, 1, 0, 21);
        check.dueRequest(hall, 0, 6, 3, 2, Check.PUT, 21, 1, 132, 6);
        check.dueRequest(hall, 1, 6, 3, 1, Check.OPEN, Check.NONE, 0, 0, 5);
        check.dueRequest(hall, 2, 6, 0, 1, Check.OPEN, Check.NONE, 0, 0, 4);
    }

    private static void readsHaveNoSession() {
        for (int kind = Check.PUT; kind <= Check.NEXT; kind++) {
            boolean command = kind <= Check.REMOVE;
            PatronHall hall = Check.withSession(new PatronHall(), 1, 16);
            Check.asked(hall, 1, kind);
            check.dueRequest(hall, 0, 1, 0, 3, kind, command ? 16 : Check.NONE, command ? 2 : 0,
                    kind == Check.COUNT ? 2 : 1, 0);
        }
    }

    private static void requestsStayAsTheyWent() {
        PatronHall hall = Check.withSession(new PatronHall(), 0, 16);
        Check.fed(hall, 20).ask(0, Check.GET, 20, 0);
        hall.reply(0, 3, 1, 6);
        hall.reply(0, 3, 2, 0);
        check.dueRequest(hall, 2, 0, 0, 2, Check.PUT, 16, 1, 1, 0);
        check.dueRequest(hall, 3, 0, 0, 1, Check.OPEN, Check.NONE, 0, 0, 0);
    }

    private static void only64() {
        PatronHall hall = new PatronHall();
        for (int i = 0; i < 100; i++) {
            check.due("not there yet", hall.request(i, 0), Check.NONE);
            hall.feed(i, 1);
            hall.ask(i % 8, Check.GET, 1, 0);
            hall.giveUp(i % 8);
        }
        for (int k = 0; k < 64; k++) {
            check.due("the client of " + k, hall.request(k, 0), (99 - k) % 8);
            check.due("the number of " + k, hall.request(k, 2), (99 - k) / 8 + 1);
        }
        for (int what = 0; what < 8; what++) {
            check.due("the 65th", hall.request(64, what), Check.NONE);
        }
        check.due("requests", hall.count(3), 100);
    }

    private static void wrongInputs() {
        PatronHall hall = new PatronHall();
        for (int what = 0; what < 8; what++) {
            check.due("no request at all", hall.request(0, what), Check.NONE);
        }
        Check.asked(hall, 3, Check.GET);
        for (int wrong : new int[] {-1, 8, 64, Integer.MIN_VALUE, Integer.MAX_VALUE}) {
            check.due("request(0, " + wrong + ")", hall.request(0, wrong), Check.NONE);
            check.due("request(" + wrong + ", 0)", hall.request(wrong, 0), Check.NONE);
        }
        check.due("request(1, 0)", hall.request(1, 0), Check.NONE);
    }
}
