/** Promise 5; what a good reply does stands in TermsReplyTest. */
public final class ReplyTest {
    private static final Check check = new Check();

    public static void main(String[] args) {
        codesAre0To3();
        placesAre1To1000000();
        answerHasAtMost134Bytes();
        serverOrNone();
        valueIs0For2And3();
        tapeIsEmptyButFor0();
        whetherItIsForWhatItWaitsFor();
        noSuchClient();
        noSuchClientComesFirst();
        check.end();
    }

    private static String call(int code, int value, int size) {
        return "reply of " + code + " and " + value + " with " + size + " bytes";
    }

    /** By one who requests OPEN, one in a session, and those with other alarms. */
    private static void taken(int code, int value, int size) {
        for (int client = 1; client <= 4; client++) {
            PatronHall hall = Scenes.BUSY.then(Scenes.fedWith(size)).hall();
            int number = hall.client(client, 4);
            check.due(call(code, value, size), hall.reply(client, number, code, value), true);
            check.due("bytes on the tape", hall.count(5), 0);
        }
    }

    /** By each who waits, for its number and for another, and by those who are idle: the fault is the reply's own. */
    private static void refused(int code, int value, int size) {
        for (int client = 0; client <= 7; client++) {
            int c = client;
            int own = Scenes.BUSY.hall().client(c, 4);
            for (int number : new int[] {own, own + 1}) {
                Scene replying = Scenes.fedWith(size).then(hall -> hall.reply(c, number, code, value));
                check.refusedForArgument(call(code, value, size), Scenes.BUSY, replying);
            }
        }
    }

    /** "code 0 .., 1 .., 2, 3". */
    private static void codesAre0To3() {
        taken(0, 1, 0);
        taken(1, 1, 0);
        taken(2, 0, 0);
        taken(3, 0, 0);
        for (int code : new int[] {-1, 4, Integer.MIN_VALUE, Integer.MAX_VALUE}) {
            refused(code, 0, 0);
            refused(code, 1, 0);
        }
    }

    /** "code 0 with a place (1 .. 1000000)". */
    private static void placesAre1To1000000() {
        for (int place : new int[] {1, 2, 999999, 1000000}) {
            taken(0, place, 0);
            PatronHall hall = Scenes.asked(0, Check.GET).hall();
            hall.reply(0, 1, 0, place);
            check.due("the place", hall.history(0, 5), place);
        }
        for (int place : new int[] {0, -1, 1000001, Integer.MIN_VALUE, Integer.MAX_VALUE}) {
            refused(0, place, 0);
            refused(0, place, 5);
        }
    }

    /** "and the tape as the answer (at most 134 bytes)", for OPEN as well, though nobody is told that one. */
    private static void answerHasAtMost134Bytes() {
        for (int size : new int[] {0, 1, 133, 134}) {
            taken(0, 9, size);
            PatronHall hall = Scenes.asked(0, Check.GET).then(Scenes.fedWith(size)).hall();
            hall.reply(0, 1, 0, 9);
            check.due("answer", hall.answer(0), size);
        }
        for (int size : new int[] {135, 136, 240}) {
            refused(0, 9, size);
        }
    }

    /** "1 with a server or NONE". */
    private static void serverOrNone() {
        for (int server : new int[] {Check.NONE, 0, 1, 5, 6}) {
            taken(1, server, 0);
        }
        for (int server : new int[] {-2, 7, Integer.MIN_VALUE, Integer.MAX_VALUE}) {
            refused(1, server, 0);
        }
    }

    /** "2, 3 (value 0, as for all that is not told)". */
    private static void valueIs0For2And3() {
        for (int code = 2; code <= 3; code++) {
            taken(code, 0, 0);
            for (int value : new int[] {1, -1, Integer.MIN_VALUE, Integer.MAX_VALUE}) {
                refused(code, value, 0);
            }
        }
    }

    /** "IllegalArgumentException, when .. the tape (empty but for 0) are not so". */
    private static void tapeIsEmptyButFor0() {
        taken(0, 6, 1);
        for (int size : new int[] {1, 134, 240}) {
            refused(1, 6, size);
            refused(1, Check.NONE, size);
            refused(2, 0, size);
            refused(3, 0, size);
        }
    }

    /** "whether it is for what the client waits for". */
    private static void whetherItIsForWhatItWaitsFor() {
        for (int code = 0; code <= 3; code++) {
            int value = code < 2 ? 1 : 0;
            for (int number = 2; number <= 4; number++) {
                PatronHall hall = Scenes.waiting(0, Check.PUT, true).hall();
                check.due("reply for " + number, hall.reply(0, number, code, value), number == 3);
            }
            PatronHall idle = Check.withSession(new PatronHall(), 0, 9);
            check.due("reply to an idle one", idle.reply(0, 2, code, value), false);
            check.due("reply to one never asked", idle.reply(1, 0, code, value), false);
        }
    }

    /** "IndexOutOfBoundsException, when there is no such client". */
    private static void noSuchClient() {
        for (int client : new int[] {0, 7}) {
            check.due("reply to " + client, Scenes.asked(client, Check.GET).hall().reply(client, 1, 3, 0), true);
        }
        for (int client : Check.NO_CLIENTS) {
            for (int[] good : new int[][] {{0, 1}, {1, 1}, {1, Check.NONE}, {2, 0}, {3, 0}}) {
                check.refusedForIndex("reply to " + client, Scenes.BUSY,
                        hall -> hall.reply(client, 1, good[0], good[1]));
            }
            Scene answering = Scenes.fedWith(134).then(hall -> hall.reply(client, 1, 0, 1));
            check.refusedForIndex("answer to " + client, Scenes.BUSY, answering);
        }
    }

    /** As the document names the faults. */
    private static void noSuchClientComesFirst() {
        for (int client : Check.NO_CLIENTS) {
            Scene replying = Scenes.fedWith(3).then(hall -> hall.reply(client, 1, 4, 7));
            check.refusedForIndex("reply of 4 to " + client, Scenes.BUSY, replying);
        }
    }
}
