/** Promise 12. */
public final class HistoryTest {
    private static final Check check = new Check();

    public static void main(String[] args) {
        allThatCanBeTold();
        longHistory();
        wrongInputs();
        check.end();
    }

    private static void allThatCanBeTold() {
        PatronHall hall = new PatronHall();
        Check.asked(hall, 7, Check.COUNT);
        Check.asked(hall, 1, Check.GET);
        Check.asked(hall, 2, Check.SWAP);
        Check.asked(hall, 3, Check.NEXT);
        Check.asked(hall, 4, Check.REMOVE);
        check.dueHistory(hall, 1, 1, Check.GET, 1, Check.NONE, 0, Check.NONE);
        hall.giveUp(1);
        hall.reply(7, 1, 0, 500);
        hall.giveUp(2);
        hall.reply(3, 1, 2, 0);
        Check.asked(hall, 7, Check.PUT);
        hall.reply(7, 2, 0, 600);
        hall.reply(7, 3, 0, 601);
        check.dueHistory(hall, 0, 7, Check.COUNT, 0, 6, 1, 500);
        check.dueHistory(hall, 1, 1, Check.GET, 1, 5, 3, Check.NONE);
        check.dueHistory(hall, 2, 2, Check.SWAP, 2, 7, 2, Check.NONE);
        check.dueHistory(hall, 3, 3, Check.NEXT, 3, 8, 2, Check.NONE);
        check.dueHistory(hall, 4, 4, Check.REMOVE, 4, Check.NONE, 0, Check.NONE);
        check.dueHistory(hall, 5, 7, Check.PUT, 9, 10, 1, 601);
    }

    /** 510 calls, and then the history is told. */
    private static void longHistory() {
        PatronHall hall = new PatronHall();
        for (int i = 0; i < 170; i++) {
            Check.asked(hall, i % 8, Check.GET);
            hall.reply(i % 8, i / 8 + 1, 0, i + 1);
        }
        for (int i = 0; i < 170; i++) {
            check.dueHistory(hall, i, i % 8, Check.GET, 2 * i, 2 * i + 1, 1, i + 1);
        }
    }

    private static void wrongInputs() {
        PatronHall hall = new PatronHall();
        Check.asked(hall, 0, Check.GET);
        for (int wrong : new int[] {-1, 6, 1024, Integer.MIN_VALUE, Integer.MAX_VALUE}) {
            check.dueNoIndex("history(" + wrong + ", 0)", () -> hall.history(wrong, 0));
            check.dueNoIndex("history(0, " + wrong + ")", () -> hall.history(0, wrong));
        }
        check.dueNoIndex("history(1, 0)", () -> hall.history(1, 0));
    }
}
