/** Terms: THE TAPE. */
public final class TermsTapeTest {
    private static final Check check = new Check();

    public static void main(String[] args) {
        emptyAtFirst();
        atMost240();
        emptyBehindAsk();
        emptyBehindReply();
        emptiedItBeginsAnew();
        staysBehindAllOthers();
        check.end();
    }

    /** "empty at first". */
    private static void emptyAtFirst() {
        PatronHall hall = new PatronHall();
        check.due("bytes on the tape", hall.count(5), 0);
        check.dueNoArgument("GET needs a key", () -> hall.ask(0, Check.GET, 1, 0));
        check.due("the first byte", hall.feed(5, 1), 1);
    }

    /** "a row of at most 240 bytes". */
    private static void atMost240() {
        PatronHall hall = Check.fed(new PatronHall(), 239);
        check.due("bytes on the tape", hall.count(5), 239);
        check.due("the 240th", hall.feed(1, 1), 240);
        check.dueNoState("the 241st", () -> hall.feed(1, 1));
        check.due("bytes on the tape", hall.count(5), 240);
    }

    /** "it is empty behind each call of ask() .., in any case": taken, or refused for each of its reasons. */
    private static void emptyBehindAsk() {
        emptyBehind("ask that is taken", 1, hall -> hall.ask(7, Check.GET, 1, 0));
        emptyBehind("ask of no client", 1, hall -> hall.ask(8, Check.GET, 1, 0));
        emptyBehind("ask of no kind", 1, hall -> hall.ask(7, 6, 1, 0));
        emptyBehind("ask with a wrong key", 33, hall -> hall.ask(7, Check.GET, 33, 0));
        emptyBehind("ask with a wrong value", 102, hall -> hall.ask(7, Check.PUT, 1, 0));
        emptyBehind("ask with a wrong v", 1, hall -> hall.ask(7, Check.GET, 1, 1));
        emptyBehind("ask with a full tape", 240, hall -> hall.ask(7, Check.SWAP, 32, 100));
        emptyBehind("ask of one who waits", 1, hall -> hall.ask(1, Check.GET, 1, 0));
    }

    /** ".. and reply(), in any case": of use, for nothing, or refused. */
    private static void emptyBehindReply() {
        emptyBehind("reply to OPEN", 134, hall -> hall.reply(1, 1, 0, 5));
        emptyBehind("reply to a command", 134, hall -> hall.reply(2, 3, 0, 5));
        emptyBehind("reply to an idle one", 134, hall -> hall.reply(0, 3, 0, 5));
        emptyBehind("reply for another number", 134, hall -> hall.reply(2, 2, 0, 5));
        emptyBehind("reply to no client", 134, hall -> hall.reply(-1, 1, 0, 5));
        emptyBehind("reply with no place", 134, hall -> hall.reply(1, 1, 0, 0));
        emptyBehind("reply with a long answer", 135, hall -> hall.reply(1, 1, 0, 5));
        emptyBehind("reply with a full tape", 240, hall -> hall.reply(1, 1, 0, 5));
        emptyBehind("reply of code 1 with a tape", 1, hall -> hall.reply(1, 1, 1, 5));
        emptyBehind("reply of code 2 with a tape", 1, hall -> hall.reply(1, 1, 2, 0));
        emptyBehind("reply of code 3 with a tape", 1, hall -> hall.reply(1, 1, 3, 0));
        emptyBehind("reply of no code", 1, hall -> hall.reply(1, 1, 4, 0));
    }

    private static void emptyBehind(String call, int size, Scene calling) {
        PatronHall hall = Scenes.BUSY.then(Scenes.fedWith(size)).hall();
        check.due("bytes before " + call, hall.count(5), size);
        calling.attempted().play(hall);
        check.due("bytes behind " + call, hall.count(5), 0);
        check.due("feed behind " + call, hall.feed(1, 8), 8);
    }

    /** What was on the tape before is neither asked nor answered later. */
    private static void emptiedItBeginsAnew() {
        PatronHall hall = Check.fed(new PatronHall(), 9);
        check.dueNoIndex("no such client", () -> hall.ask(8, Check.GET, 9, 0));
        hall.feed(0x7a79, 2);
        hall.ask(0, Check.GET, 2, 0);
        check.dueData(hall, 0, 0x79, 0x7a);
        Check.fed(hall, 9);
        check.due("for another number", hall.reply(0, 2, 0, 1), false);
        hall.feed(0x78, 1);
        check.due("for its number", hall.reply(0, 1, 0, 1), true);
        check.dueAnswer(hall, 0, 0x78);
    }

    /** No other call empties it. */
    private static void staysBehindAllOthers() {
        PatronHall hall = Scenes.BUSY_WITH_TAPE.hall();
        hall.giveUp(1);
        hall.giveUp(7);
        hall.tick(100);
        hall.client(0, 0);
        hall.request(0, 0);
        hall.dataAt(0, 0);
        hall.answer(0);
        hall.answerAt(0, 0);
        hall.history(0, 0);
        check.due("bytes on the tape", hall.count(5), 3);
        hall.feed(9, 1);
        hall.ask(7, Check.GET, 4, 0);
        check.dueData(hall, 7, 1, 2, 3, 9);
    }
}
