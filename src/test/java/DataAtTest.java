/** Promise 9. */
public final class DataAtTest {
    private static final Check check = new Check();

    public static void main(String[] args) {
        allBytes();
        lastAskingCounts();
        wrongInputs();
        check.end();
    }

    private static void allBytes() {
        PatronHall hall = new PatronHall();
        for (int i = 0; i < 29; i++) {
            hall.feed(0x0101010101010101L * (255 - i), 8);
        }
        hall.ask(1, Check.SWAP, 32, 100);
        for (int i = 0; i < 232; i++) {
            check.due("dataAt(1, " + i + ")", hall.dataAt(1, i), 255 - i / 8);
        }
        check.dueNoIndex("dataAt(1, 232)", () -> hall.dataAt(1, 232));
    }

    private static void lastAskingCounts() {
        PatronHall hall = new PatronHall();
        Check.fed(hall, 9).ask(0, Check.GET, 9, 0);
        hall.feed(0, 8);
        check.due("the tape is another", hall.dataAt(0, 8), 9);
        hall.reply(0, 1, 0, 4);
        check.due("told, it is still there", hall.dataAt(0, 8), 9);
        hall.feed(0x8000, 2);
        hall.ask(0, Check.REMOVE, 2, 0);
        check.due("dataAt(0, 0)", hall.dataAt(0, 0), 0);
        check.due("dataAt(0, 1)", hall.dataAt(0, 1), 128);
        check.dueNoIndex("dataAt(0, 2)", () -> hall.dataAt(0, 2));
        check.dueNoIndex("another client", () -> hall.dataAt(1, 0));
    }

    private static void wrongInputs() {
        PatronHall hall = new PatronHall();
        Check.asked(hall, 0, Check.GET);
        for (int wrong : new int[] {-1, 8, Integer.MIN_VALUE, Integer.MAX_VALUE}) {
            check.dueNoIndex("dataAt(0, " + wrong + ")", () -> hall.dataAt(0, wrong));
            check.dueNoIndex("dataAt(" + wrong + ", 0)", () -> hall.dataAt(wrong, 0));
        }
        check.dueNoIndex("dataAt(0, 1)", () -> hall.dataAt(0, 1));
    }
}
