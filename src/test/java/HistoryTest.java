/** Promise 12; the moments stand in TermsGivingUpTest. */
public final class HistoryTest {
    private static final Check check = new Check();

    public static void main(String[] args) {
        allThatCanBeTold();
        placeOnlyWhenItIsDone();
        nothingYet();
        longHistory();
        noSuchAsking();
        noSuchWhat();
        lookingChangesNothing();
        check.end();
    }

    /** "the client (0), the kind (1), its moment (2), .. what was told: 0 nothing yet, 1 DONE, 2 UNCLEAR, 3 GIVEN UP". */
    private static void allThatCanBeTold() {
        PatronHall hall = new PatronHall();
        Check.asked(hall, 7, Check.COUNT);
        Check.asked(hall, 1, Check.GET);
        Check.asked(hall, 2, Check.SWAP);
        Check.asked(hall, 3, Check.NEXT);
        Check.asked(hall, 4, Check.REMOVE);
        check.dueHistory(hall, 1, 1, Check.GET, 1, Check.NONE, 0, Check.NONE);
        hall.giveUp(1);
        hall.reply(7, 1, 0, 500);
        hall.giveUp(2);
        hall.reply(3, 1, 2, 0);
        Check.asked(hall, 7, Check.PUT);
        hall.reply(7, 2, 0, 600);
        hall.reply(7, 3, 0, 601);
        check.dueHistory(hall, 0, 7, Check.COUNT, 0, 6, 1, 500);
        check.dueHistory(hall, 1, 1, Check.GET, 1, 5, 3, Check.NONE);
        check.dueHistory(hall, 2, 2, Check.SWAP, 2, 7, 2, Check.NONE);
        check.dueHistory(hall, 3, 3, Check.NEXT, 3, 8, 2, Check.NONE);
        check.dueHistory(hall, 4, 4, Check.REMOVE, 4, Check.NONE, 0, Check.NONE);
        check.dueHistory(hall, 5, 7, Check.PUT, 9, 10, 1, 601);
    }

    /** "its place, when it is DONE, else NONE (5)": the command's place, never OPEN's. */
    private static void placeOnlyWhenItIsDone() {
        for (int place : new int[] {1, 1000000}) {
            PatronHall hall = Scenes.asked(0, Check.PUT).hall();
            hall.reply(0, 1, 0, 77);
            check.due("behind OPEN", hall.history(0, 5), Check.NONE);
            hall.reply(0, 2, 0, place);
            check.due("DONE", hall.history(0, 5), place);
        }
        Scene open = Scenes.asked(0, Check.PUT).then(hall -> hall.reply(0, 1, 0, 77));
        Scene[] tellings = {h -> h.giveUp(0), h -> h.reply(0, 2, 2, 0), Scenes.triesUpTo(0, 41)};
        for (Scene telling : tellings) {
            PatronHall hall = open.then(telling).hall();
            check.dueHistory(hall, 0, 0, Check.PUT, 0, 1, 2, Check.NONE);
        }
    }

    /** "the moment of its telling or NONE (3)", as long as it waits, up to its last try. */
    private static void nothingYet() {
        for (int tries : new int[] {1, 40}) {
            PatronHall hall = Scenes.asked(0, Check.GET).then(Scenes.triesUpTo(0, tries)).hall();
            check.dueHistory(hall, 0, 0, Check.GET, 0, Check.NONE, 0, Check.NONE);
        }
        PatronHall over = Scenes.asked(0, Check.GET).then(Scenes.triesUpTo(0, 41)).hall();
        check.dueHistory(over, 0, 0, Check.GET, 0, 1, 3, Check.NONE);
    }

    /** So many askings as some 500 calls can make and end, each looked at in an object of its own. */
    private static void longHistory() {
        Scene scene = hall -> {
            for (int i = 0; i < 168; i++) {
                Check.asked(hall, i % 8, Check.GET);
                hall.reply(i % 8, i / 8 + 1, 0, i + 1);
            }
        };
        for (int i = 0; i < 168; i++) {
            check.dueHistory(scene.hall(), i, i % 8, Check.GET, 2 * i, 2 * i + 1, 1, i + 1);
        }
        PatronHall hall = scene.hall();
        check.due("askings", hall.count(1), 168);
        check.dueNoIndex("history(168, 0)", () -> hall.history(168, 0));
    }

    /** "IndexOutOfBoundsException, when there is none of these": an i below 0, or as many as there are, or more. */
    private static void noSuchAsking() {
        PatronHall hall = Scenes.BUSY.hall();
        int askings = hall.count(1);
        check.due("the first", hall.history(0, 0), 0);
        check.due("the last", hall.history(askings - 1, 0), 6);
        check.refusedForIndex("history(0, 0) of none", Scenes.NEW, h -> h.history(0, 0));
        int[] wrongs = {-1, askings, askings + 1, 1023, 1024, Integer.MIN_VALUE, Integer.MAX_VALUE};
        for (int i : wrongs) {
            for (int what : new int[] {-1, 0, 5, 6}) {
                check.refusedForIndex("history(" + i + ", " + what + ")", Scenes.BUSY_WITH_TAPE,
                        h -> h.history(i, what));
            }
        }
    }

    /** The same: a what below 0 or above 5. */
    private static void noSuchWhat() {
        for (int i : new int[] {0, 1}) {
            for (int what : new int[] {-1, 6, 7, Integer.MIN_VALUE, Integer.MAX_VALUE}) {
                check.refusedForIndex("history(" + i + ", " + what + ")", Scenes.BUSY_WITH_TAPE,
                        hall -> hall.history(i, what));
            }
        }
    }

    private static void lookingChangesNothing() {
        for (int what = 0; what <= 5; what++) {
            int w = what;
            check.dueSame("history(1, " + w + ")", Scenes.BUSY_WITH_TAPE,
                    Scenes.BUSY_WITH_TAPE.then(hall -> hall.history(1, w)));
        }
    }
}
