/** Promise 6. */
public final class TickTest {
    private static final Check check = new Check();

    public static void main(String[] args) {
        timeGoesOn();
        impatientOnesTurn();
        byTimeThenByMaking();
        madeAnewIsMadeLater();
        nowIsTheAlarmsTime();
        givingUpRingsToo();
        wrongLengths();
        check.end();
    }

    private static void timeGoesOn() {
        PatronHall hall = new PatronHall();
        check.due("tick(1)", hall.tick(1), 0);
        check.due("NOW", hall.count(0), 1);
        check.due("tick(1000)", hall.tick(1000), 0);
        check.due("NOW", hall.count(0), 1001);
        hall.feed(1, 1);
        hall.tick(1);
        check.due("the tape stays", hall.count(5), 1);
    }

    private static void impatientOnesTurn() {
        PatronHall hall = new PatronHall();
        Check.asked(hall, 0, Check.GET);
        hall.reply(0, 1, 1, 5);
        check.due("before it", hall.tick(59), 0);
        check.due("at it", hall.tick(1), 1);
        check.dueClient(hall, 0, 1, 6, Check.NONE, 0, 1, 3, 120, 1, 0);
        check.dueRequest(hall, 0, 0, 6, 1, Check.GET, Check.NONE, 0, 1, 60);
        check.due("behind it", hall.tick(61), 1);
        check.dueClient(hall, 0, 1, 0, Check.NONE, 0, 1, 4, 180, 1, 0);
    }

    private static void byTimeThenByMaking() {
        PatronHall hall = new PatronHall();
        Check.asked(hall, 5, Check.GET);
        Check.asked(hall, 2, Check.GET);
        hall.tick(1);
        Check.asked(hall, 0, Check.GET);
        check.due("all ring", hall.tick(60), 3);
        check.dueRequest(hall, 2, 5, 1);
        check.dueRequest(hall, 1, 2, 1);
        check.dueRequest(hall, 0, 0, 1);
        check.due("all ring again, twice", hall.tick(120), 6);
        int[] order = {0, 2, 5, 0, 2, 5};
        for (int k = 0; k < order.length; k++) {
            check.due("request(" + k + ", 0)", hall.request(k, 0), order[k]);
        }
    }

    private static void madeAnewIsMadeLater() {
        PatronHall hall = new PatronHall();
        Check.asked(hall, 0, Check.GET);
        Check.asked(hall, 1, Check.GET);
        hall.reply(0, 1, 3, 0);
        hall.reply(1, 1, 3, 0);
        hall.reply(0, 1, 3, 0);
        check.due("both ring once", hall.tick(20), 2);
        check.due("1 was made first", hall.request(1, 0), 1);
        check.due("0 was made anew", hall.request(0, 0), 0);
    }

    private static void nowIsTheAlarmsTime() {
        PatronHall hall = new PatronHall();
        Check.asked(hall, 0, Check.GET);
        hall.tick(30);
        Check.asked(hall, 1, Check.GET);
        check.due("rings", hall.tick(100), 3);
        check.due("NOW", hall.count(0), 130);
        check.due("the latest went", hall.request(0, 7), 120);
        check.due("before it", hall.request(1, 7), 90);
        check.due("before it", hall.request(2, 7), 60);
        check.dueClient(hall, 0, 1, 2, Check.NONE, 0, 1, 3, 180, 1, 0);
        check.dueClient(hall, 1, 1, 1, Check.NONE, 0, 1, 2, 150, 1, 0);
    }

    private static void givingUpRingsToo() {
        PatronHall hall = new PatronHall();
        Check.asked(hall, 0, Check.GET);
        Check.asked(hall, 1, Check.PUT);
        check.due("to 1000", hall.tick(1000), 32);
        check.due("to 2000", hall.tick(1000), 34);
        check.due("to 2399", hall.tick(399), 12);
        check.dueClient(hall, 0, 1, 4, Check.NONE, 0, 1, 40, 2400, 1, 0);
        check.due("to 2400", hall.tick(1), 2);
        check.dueClient(hall, 0, 0, 5, Check.NONE, 0, 1, 41, Check.NONE, 0, 0);
        check.dueClient(hall, 1, 0, 5, Check.NONE, 0, 1, 41, Check.NONE, 0, 0);
        check.dueHistory(hall, 0, 0, Check.GET, 0, 2, 3, Check.NONE);
        check.dueHistory(hall, 1, 1, Check.PUT, 1, 3, 2, Check.NONE);
        check.due("nothing rings", hall.tick(1000), 0);
        check.due("requests", hall.count(3), 80);
    }

    private static void wrongLengths() {
        PatronHall hall = new PatronHall();
        Check.asked(hall, 0, Check.GET);
        for (int n : new int[] {0, -1, 1001, Integer.MIN_VALUE, Integer.MAX_VALUE}) {
            check.dueNoArgument("tick(" + n + ")", () -> hall.tick(n));
        }
        check.dueCounts(hall, 0, 1, 1, 1, 1, 0);
    }
}
