/** Promise 2, and what the terms say of the tape. */
public final class FeedTest {
    private static final Check check = new Check();

    public static void main(String[] args) {
        lowestBytesComeFirst();
        wrongLengths();
        tapeHasAnEnd();
        check.end();
    }

    private static void lowestBytesComeFirst() {
        PatronHall hall = new PatronHall();
        check.due("feed of 8", hall.feed(0x8877665544332211L, 8), 8);
        check.due("feed of 1", hall.feed(0xffffffffffffffffL, 1), 9);
        check.due("feed of 2", hall.feed(0x7fff00L, 2), 11);
        hall.ask(0, Check.GET, 11, 0);
        int[] wants = {0x11, 0x22, 0x33, 0x44, 0x55, 0x66, 0x77, 0x88, 0xff, 0x00, 0xff};
        for (int i = 0; i < wants.length; i++) {
            check.due("dataAt(0, " + i + ")", hall.dataAt(0, i), wants[i]);
        }
    }

    private static void wrongLengths() {
        PatronHall hall = Check.fed(new PatronHall(), 3);
        for (int n : new int[] {0, -1, 9, Integer.MIN_VALUE, Integer.MAX_VALUE}) {
            check.dueNoArgument("feed(1, " + n + ")", () -> hall.feed(1, n));
        }
        check.due("count(5)", hall.count(5), 3);
    }

    private static void tapeHasAnEnd() {
        PatronHall hall = new PatronHall();
        for (int i = 1; i <= 29; i++) {
            check.due("feed " + i, hall.feed(i, 8), 8 * i);
        }
        check.due("feed to 233", hall.feed(1, 1), 233);
        check.dueNoState("feed to 241", () -> hall.feed(1, 8));
        check.due("count(5) after a refused feed", hall.count(5), 233);
        check.due("feed to 240", hall.feed(1, 7), 240);
        check.dueNoState("feed of 1 on a full tape", () -> hall.feed(1, 1));
        check.dueNoArgument("feed of 9 on a full tape", () -> hall.feed(1, 9));
        check.dueNoArgument("ask with a full tape", () -> hall.ask(0, Check.SWAP, 32, 100));
        check.due("count(5) behind ask", hall.count(5), 0);
        check.due("feed on the emptied tape", hall.feed(1, 8), 8);
    }
}
