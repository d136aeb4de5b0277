/** Promise 13. */
public final class CountTest {
    private static final Check check = new Check();

    public static void main(String[] args) {
        whatEachCounts();
        requestsAboveThoseKept();
        fullTape();
        noneForAnotherWhat();
        lookingChangesNothing();
        check.end();
    }

    /** "NOW (0), askings (1), moments (2), requests (3), clients that wait (4), bytes on the tape (5)". */
    private static void whatEachCounts() {
        PatronHall hall = new PatronHall();
        for (int client = 0; client < 8; client++) {
            check.dueCounts(hall, client, client, client, client, client, 0);
            Check.asked(hall, client, Check.GET);
            hall.tick(1);
        }
        check.dueCounts(hall, 8, 8, 8, 8, 8, 0);
        hall.feed(1, 3);
        check.dueCounts(hall, 8, 8, 8, 8, 8, 3);
        hall.giveUp(4);
        check.dueCounts(hall, 8, 8, 9, 8, 7, 3);
        hall.reply(5, 1, 0, 1);
        check.dueCounts(hall, 8, 8, 10, 8, 6, 0);
        hall.reply(6, 1, 1, 2);
        check.dueCounts(hall, 8, 8, 10, 9, 6, 0);
        hall.tick(60);
        check.dueCounts(hall, 68, 8, 10, 15, 6, 0);
    }

    /** All that went, not only the 64 that are kept; what gives up did not go. */
    private static void requestsAboveThoseKept() {
        PatronHall hall = new PatronHall();
        for (int client = 0; client < 8; client++) {
            Check.asked(hall, client, Check.GET);
        }
        for (int[] want : new int[][] {{479, 64}, {1, 72}, {1000, 200}, {919, 320}, {1, 320}, {1000, 320}}) {
            hall.tick(want[0]);
            check.due("requests at " + hall.count(0), hall.count(3), want[1]);
        }
        check.due("clients that wait", hall.count(4), 0);
        check.due("moments", hall.count(2), 16);
    }

    private static void fullTape() {
        for (int size : new int[] {0, 1, 239, 240}) {
            check.due("bytes on the tape", Check.fed(new PatronHall(), size).count(5), size);
        }
    }

    /** "NONE for another what". */
    private static void noneForAnotherWhat() {
        for (Scene scene : new Scene[] {Scenes.NEW, Scenes.BUSY_WITH_TAPE}) {
            PatronHall hall = scene.hall();
            for (int what : new int[] {-1, 6, 7, Integer.MIN_VALUE, Integer.MAX_VALUE}) {
                check.due("count(" + what + ")", hall.count(what), Check.NONE);
            }
        }
    }

    private static void lookingChangesNothing() {
        for (int what = -1; what <= 6; what++) {
            int w = what;
            check.dueSame("count(" + w + ")", Scenes.BUSY_WITH_TAPE, Scenes.BUSY_WITH_TAPE.then(hall -> hall.count(w)));
        }
    }
}
