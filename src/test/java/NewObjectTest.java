/** Promise 1. */
public final class NewObjectTest {
    private static final Check check = new Check();

    public static void main(String[] args) {
        PatronHall hall = new PatronHall();
        check.dueCounts(hall, 0, 0, 0, 0, 0, 0);
        for (int client = 0; client < 8; client++) {
            int c = client;
            check.dueClient(hall, c, 0, 0, Check.NONE, 0, 0, 0, Check.NONE, 0, 0);
            check.due("answer", hall.answer(c), 0);
            check.dueNoIndex("answerAt", () -> hall.answerAt(c, 0));
            check.dueNoIndex("dataAt", () -> hall.dataAt(c, 0));
        }
        check.due("request(0, 0)", hall.request(0, 0), Check.NONE);
        check.dueNoIndex("history(0, 0)", () -> hall.history(0, 0));
        check.due("tick rings nothing", hall.tick(1000), 0);
        objectsAreApart();
        check.end();
    }

    private static void objectsAreApart() {
        PatronHall one = new PatronHall();
        PatronHall other = new PatronHall();
        Check.asked(one, 0, Check.PUT);
        one.feed(1, 1);
        one.tick(7);
        check.dueCounts(other, 0, 0, 0, 0, 0, 0);
        check.dueClient(other, 0, 0, 0, Check.NONE, 0, 0, 0, Check.NONE, 0, 0);
    }
}
