import java.util.Arrays;

/** Promise 2. */
public final class FeedTest {
    private static final Check check = new Check();

    public static void main(String[] args) {
        lowestBytesComeFirst();
        theyComeBehindTheTape();
        howManyItHas();
        nIsNot1To8();
        refusedTheTapeStays();
        moreThan240();
        refusedItCanStillBeFilled();
        wrongNOnAFullTape();
        check.end();
    }

    /** "The n lowest bytes of eight .., the lowest first": no byte above them, for every n. */
    private static void lowestBytesComeFirst() {
        int[] bytes = {0x11, 0xff, 0x00, 0x80, 0x7f, 0x66, 0x01, 0xfe};
        for (int n = 1; n <= 8; n++) {
            PatronHall hall = new PatronHall();
            hall.feed(0xfe01667f8000ff11L, n);
            hall.ask(0, Check.GET, n, 0);
            check.dueData(hall, 0, Arrays.copyOf(bytes, n));
        }
    }

    /** "come behind the tape". */
    private static void theyComeBehindTheTape() {
        PatronHall hall = new PatronHall();
        hall.feed(0x0201, 2);
        hall.feed(0x050403, 3);
        hall.feed(0xffff06, 1);
        hall.ask(0, Check.GET, 6, 0);
        check.dueData(hall, 0, 1, 2, 3, 4, 5, 6);
    }

    /** "how many it has". */
    private static void howManyItHas() {
        PatronHall hall = new PatronHall();
        int size = 0;
        for (int n = 1; n <= 8; n++) {
            size += n;
            check.due("feed of " + n, hall.feed(-1, n), size);
            check.due("bytes on the tape", hall.count(5), size);
        }
    }

    /** "IllegalArgumentException, when n is not 1 .. 8". */
    private static void nIsNot1To8() {
        check.due("n is 1", new PatronHall().feed(7, 1), 1);
        check.due("n is 8", new PatronHall().feed(7, 8), 8);
        for (int n : new int[] {0, 9, -1, -8, 16, Integer.MIN_VALUE, Integer.MAX_VALUE}) {
            check.refusedForArgument("feed(7, " + n + ")", Scenes.NEW, hall -> hall.feed(7, n));
            check.refusedForArgument("feed(7, " + n + ")", Scenes.BUSY_WITH_TAPE, hall -> hall.feed(7, n));
        }
    }

    /** What is on the tape stays as it was, and the next bytes come behind it. */
    private static void refusedTheTapeStays() {
        PatronHall hall = Check.fed(new PatronHall(), 3);
        for (int n : new int[] {0, 9}) {
            check.dueNoArgument("feed(-1, " + n + ")", () -> hall.feed(-1, n));
        }
        check.due("feed", hall.feed(4, 1), 4);
        hall.ask(0, Check.GET, 4, 0);
        check.dueData(hall, 0, 1, 2, 3, 4);
    }

    /** "IllegalStateException, when there would be more than 240": by one byte or by eight, for every n. */
    private static void moreThan240() {
        for (int n = 1; n <= 8; n++) {
            int bytes = n;
            check.due("feed of " + n + " to 239", Check.fed(new PatronHall(), 239 - n).feed(7, n), 239);
            check.due("feed of " + n + " to 240", Check.fed(new PatronHall(), 240 - n).feed(7, n), 240);
            for (int size : new int[] {241 - n, 240}) {
                check.refusedForState("feed of " + n + " behind " + size,
                        Scenes.BUSY.then(Scenes.fedWith(size)), hall -> hall.feed(7, bytes));
            }
        }
    }

    /** A refused feed takes no room. */
    private static void refusedItCanStillBeFilled() {
        PatronHall hall = Check.fed(new PatronHall(), 236);
        for (int n = 8; n >= 5; n--) {
            int bytes = n;
            check.dueNoState("feed of " + n, () -> hall.feed(7, bytes));
            check.due("bytes on the tape", hall.count(5), 236);
        }
        check.due("feed of 4", hall.feed(7, 4), 240);
    }

    private static void wrongNOnAFullTape() {
        for (int n : new int[] {0, 9, Integer.MIN_VALUE, Integer.MAX_VALUE}) {
            check.refusedForArgument("feed(7, " + n + ")", Scenes.fedWith(240), hall -> hall.feed(7, n));
        }
    }
}
