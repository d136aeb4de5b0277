/** Promise 13. */
public final class CountTest {
    private static final Check check = new Check();

    public static void main(String[] args) {
        PatronHall hall = new PatronHall();
        for (int client = 0; client < 8; client++) {
            check.dueCounts(hall, client, client, client, client, client, 0);
            Check.asked(hall, client, Check.GET);
            hall.tick(1);
        }
        check.dueCounts(hall, 8, 8, 8, 8, 8, 0);
        hall.feed(1, 3);
        check.dueCounts(hall, 8, 8, 8, 8, 8, 3);
        hall.giveUp(4);
        check.dueCounts(hall, 8, 8, 9, 8, 7, 3);
        hall.reply(5, 1, 0, 1);
        check.dueCounts(hall, 8, 8, 10, 8, 6, 0);
        hall.reply(6, 1, 1, 2);
        check.dueCounts(hall, 8, 8, 10, 9, 6, 0);
        hall.tick(60);
        check.dueCounts(hall, 68, 8, 10, 15, 6, 0);
        for (int wrong : new int[] {-1, 6, Integer.MIN_VALUE, Integer.MAX_VALUE}) {
            check.due("count(" + wrong + ")", hall.count(wrong), Check.NONE);
        }
        check.end();
    }
}
