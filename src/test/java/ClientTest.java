/** Promise 7. */
public final class ClientTest {
    private static final Check check = new Check();

    public static void main(String[] args) {
        serialsOfASession();
        clientsAreApart();
        wrongInputs();
        check.end();
    }

    private static void serialsOfASession() {
        PatronHall hall = Check.withSession(new PatronHall(), 0, 70);
        check.dueClient(hall, 0, 0, 0, 70, 1, 2, 2, Check.NONE, 0, 0);
        Check.asked(hall, 0, Check.REMOVE);
        hall.tick(60);
        check.dueClient(hall, 0, 1, 1, 70, 2, 3, 2, 120, 1, 0);
        hall.reply(0, 3, 2, 0);
        check.dueClient(hall, 0, 0, 1, Check.NONE, 2, 3, 2, Check.NONE, 0, 0);
        Check.asked(hall, 0, Check.SWAP);
        check.dueClient(hall, 0, 1, 1, Check.NONE, 2, 4, 1, 120, 1, 1);
        hall.reply(0, 4, 0, 99);
        check.dueClient(hall, 0, 1, 1, 99, 1, 5, 2, 120, 1, 0);
    }

    private static void clientsAreApart() {
        PatronHall hall = new PatronHall();
        for (int client = 0; client < 8; client++) {
            Check.asked(hall, client, client % 2 == 0 ? Check.PUT : Check.GET);
            hall.reply(client, 1, 1, client % 7);
            hall.tick(1);
        }
        for (int client = 0; client < 8; client++) {
            check.dueClient(hall, client, 1, client % 7, Check.NONE, 0, 1, 2, client + 60, 1, 1 - client % 2);
        }
    }

    private static void wrongInputs() {
        PatronHall hall = new PatronHall();
        for (int wrong : new int[] {-1, 9, Integer.MIN_VALUE, Integer.MAX_VALUE}) {
            check.dueNoIndex("client(0, " + wrong + ")", () -> hall.client(0, wrong));
            check.dueNoIndex("client(" + wrong + ", 0)", () -> hall.client(wrong, 0));
        }
        check.dueNoIndex("client(8, 0)", () -> hall.client(8, 0));
    }
}
