/** Promise 8. */
public final class RequestTest {
    private static final Check check = new Check();

    public static void main(String[] args) {
        whatEachShows();
        noneForOpenAndReads();
        bytesOfTheTape();
        theyStayAsTheyWent();
        latest64();
        oneByOneOverTheEnd();
        kIsNoneOfThese();
        whatIs0To7();
        lookingChangesNothing();
        check.end();
    }

    /** "the client (0), the target (1), the request number (2), its kind (3; 6 OPEN), .., when it went (7)". */
    private static void whatEachShows() {
        PatronHall hall = new PatronHall();
        hall.tick(4);
        Check.fed(hall, 132).ask(6, Check.PUT, 32, 0);
        check.dueRequest(hall, 0, 6, 0, 1, Check.OPEN, Check.NONE, 0, 0, 4);
        hall.tick(1);
        hall.reply(6, 1, 1, 3);
        hall.tick(1);
        hall.reply(6, 1, 0, 21);
        check.dueRequest(hall, 0, 6, 3, 2, Check.PUT, 21, 1, 132, 6);
        check.dueRequest(hall, 1, 6, 3, 1, Check.OPEN, Check.NONE, 0, 0, 5);
        check.dueRequest(hall, 2, 6, 0, 1, Check.OPEN, Check.NONE, 0, 0, 4);
    }

    /** "the session, or NONE for OPEN and reads (4), the serial (5: 0 likewise)", though the client has both. */
    private static void noneForOpenAndReads() {
        for (int kind = Check.PUT; kind <= Check.NEXT; kind++) {
            boolean command = Check.isCommand(kind);
            PatronHall hall = Scenes.waiting(1, kind, true).hall();
            check.dueRequest(hall, 0, 1, 0, 3, kind, command ? 500 : Check.NONE, command ? 2 : 0,
                    kind == Check.COUNT ? 2 : 1, 0);
        }
        PatronHall hall = Scenes.waiting(1, Check.PUT, true).then(h -> h.giveUp(1)).then(Scenes.asked(1, Check.PUT)).hall();
        check.due("SERIAL stays until OPEN is told", hall.client(1, 3), 2);
        check.dueRequest(hall, 0, 1, 0, 4, Check.OPEN, Check.NONE, 0, 0, 0);
    }

    /** "how many bytes (6: those of the tape; 0 for OPEN)", from the shortest to the longest. */
    private static void bytesOfTheTape() {
        int[][] askings = {{Check.GET, 1, 0, 1}, {Check.GET, 32, 0, 32}, {Check.COUNT, 32, 0, 64}, {Check.PUT, 32, 0, 132},
            {Check.SWAP, 1, 0, 1}, {Check.SWAP, 32, 100, 232}};
        for (int[] asking : askings) {
            Scene ask = Scenes.fedWith(asking[3]).then(h -> h.ask(2, asking[0], asking[1], asking[2]));
            PatronHall hall = Check.withSession(new PatronHall(), 2, 9);
            ask.play(hall);
            check.due("bytes", hall.request(0, 6), asking[3]);
            PatronHall without = ask.hall();
            check.due("bytes", without.request(0, 6), Check.isCommand(asking[0]) ? 0 : asking[3]);
        }
    }

    /** A request shows what was when it went. */
    private static void theyStayAsTheyWent() {
        PatronHall hall = Check.withSession(new PatronHall(), 0, 16);
        Check.fed(hall, 20).ask(0, Check.SWAP, 20, 0);
        hall.tick(7);
        hall.reply(0, 3, 1, 6);
        hall.reply(0, 3, 2, 0);
        Check.asked(hall, 0, Check.GET);
        check.dueRequest(hall, 0, 0, 6, 4, Check.GET, Check.NONE, 0, 1, 7);
        check.dueRequest(hall, 1, 0, 6, 3, Check.SWAP, 16, 2, 20, 7);
        check.dueRequest(hall, 2, 0, 0, 3, Check.SWAP, 16, 2, 20, 0);
        check.dueRequest(hall, 3, 0, 0, 2, Check.PUT, 16, 1, 1, 0);
        check.dueRequest(hall, 4, 0, 0, 1, Check.OPEN, Check.NONE, 0, 0, 0);
    }

    /** One request of another client, number and length for each i. */
    private static Scene requests(int many) {
        return hall -> {
            for (int i = 0; i < many; i++) {
                Check.fed(hall, i % 5 + 1).ask(i % 8, Check.GET, i % 5 + 1, 0);
                hall.giveUp(i % 8);
            }
        };
    }

    /** "Of the latest 64 requests, k (0 the latest)": as many as there are, and 64 when there are more. */
    private static void latest64() {
        for (int many : new int[] {1, 2, 63, 64, 65, 127, 128, 129, 150}) {
            Scene scene = requests(many);
            int kept = Math.min(many, 64);
            for (int k = 0; k < kept; k++) {
                int i = many - 1 - k;
                check.dueRequest(scene.hall(), k, i % 8, 0, i / 8 + 1, Check.GET, Check.NONE, 0, i % 5 + 1, 0);
            }
            PatronHall hall = scene.hall();
            for (int what = 0; what < 8; what++) {
                check.due("the one behind them", hall.request(kept, what), Check.NONE);
                check.due("the 65th", hall.request(64, what), Check.NONE);
            }
            check.due("requests", hall.count(3), many);
        }
    }

    /** In one object, as the 64th, the 65th and the 66th go. */
    private static void oneByOneOverTheEnd() {
        PatronHall hall = new PatronHall();
        Check.asked(hall, 3, Check.GET);
        hall.giveUp(3);
        Check.asked(hall, 5, Check.GET);
        hall.giveUp(5);
        for (int i = 2; i < 63; i++) {
            Check.asked(hall, 0, Check.GET);
            hall.giveUp(0);
        }
        check.due("63: the oldest", hall.request(62, 0), 3);
        check.due("63: none behind it", hall.request(63, 0), Check.NONE);
        Check.asked(hall, 0, Check.GET);
        check.due("64: the oldest", hall.request(63, 0), 3);
        check.due("64: none behind it", hall.request(64, 0), Check.NONE);
        hall.reply(0, hall.client(0, 4), 1, 4);
        check.due("65: the oldest kept", hall.request(63, 0), 5);
        check.due("65: none behind it", hall.request(64, 0), Check.NONE);
        check.due("65: the latest", hall.request(0, 1), 4);
        hall.reply(0, hall.client(0, 4), 1, 6);
        check.due("66: the oldest kept", hall.request(63, 0), 0);
        check.due("66: the latest", hall.request(0, 1), 6);
        check.due("66: the one before", hall.request(1, 1), 4);
    }

    /** "NONE, when there is none of these": k below 0, or as many as there are, or more. */
    private static void kIsNoneOfThese() {
        PatronHall none = new PatronHall();
        PatronHall one = Scenes.asked(3, Check.GET).hall();
        for (int what = 0; what < 8; what++) {
            check.due("request(0, " + what + ") of none", none.request(0, what), Check.NONE);
            for (int k : new int[] {-1, 1, 63, 64, -64, Integer.MIN_VALUE, Integer.MAX_VALUE}) {
                check.due("request(" + k + ", " + what + ") of one", one.request(k, what), Check.NONE);
            }
        }
        check.due("request(0, 0) of one", one.request(0, 0), 3);
    }

    /** "NONE, when there is none of these": a what below 0 or above 7. */
    private static void whatIs0To7() {
        PatronHall hall = requests(70).hall();
        check.due("request(63, 0)", hall.request(63, 0), 6);
        check.due("request(63, 7)", hall.request(63, 7), 0);
        for (int what : new int[] {-1, 8, 9, Integer.MIN_VALUE, Integer.MAX_VALUE}) {
            for (int k : new int[] {-1, 0, 1, 62, 63, 64, Integer.MIN_VALUE, Integer.MAX_VALUE}) {
                check.due("request(" + k + ", " + what + ")", hall.request(k, what), Check.NONE);
            }
        }
    }

    private static void lookingChangesNothing() {
        for (int k : new int[] {-1, 0, 5, 63, 64}) {
            for (int what : new int[] {-1, 0, 7, 8}) {
                check.dueSame("request(" + k + ", " + what + ")", Scenes.BUSY_WITH_TAPE,
                        Scenes.BUSY_WITH_TAPE.then(hall -> hall.request(k, what)));
            }
        }
    }
}
