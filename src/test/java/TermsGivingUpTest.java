/** Terms: GIVING UP, HISTORY. */
public final class TermsGivingUpTest {
    private static final Check check = new Check();

    public static void main(String[] args) {
        commandsAreUnclear();
        readsAreGivenUp();
        toldItIsIdle();
        momentsAreInOrder();
        momentsInOneTick();
        noMomentForNothing();
        check.end();
    }

    /** "a command: it has no session any more, and is told: UNCLEAR", in a session or while it requests OPEN. */
    private static void commandsAreUnclear() {
        for (int kind : Check.COMMANDS) {
            for (boolean inSession : new boolean[] {false, true}) {
                PatronHall hall = Scenes.waiting(6, kind, inSession).hall();
                check.due("giveUp", hall.giveUp(6), true);
                check.due("SESSION", hall.client(6, 2), Check.NONE);
                check.due("what was told", hall.history(inSession ? 1 : 0, 4), 2);
                check.due("its place", hall.history(inSession ? 1 : 0, 5), Check.NONE);
                Check.asked(hall, 6, kind);
                check.due("the next command requests OPEN", hall.client(6, 8), 1);
            }
        }
    }

    /** "a read: told: GIVEN UP": the session stays for the next command. */
    private static void readsAreGivenUp() {
        for (int kind : Check.READS) {
            PatronHall hall = Scenes.waiting(6, kind, true).hall();
            check.due("giveUp", hall.giveUp(6), true);
            check.due("SESSION", hall.client(6, 2), 500);
            check.due("what was told", hall.history(1, 4), 3);
            check.due("its place", hall.history(1, 5), Check.NONE);
            Check.asked(hall, 6, Check.PUT);
            check.dueClient(hall, 6, 1, 0, 500, 2, 4, 1, 60, 1, 0);
        }
    }

    /** "Told, it is idle, and has no alarm", impatient or not, by whatever it was told. */
    private static void toldItIsIdle() {
        Scene[] alarms = {Scenes.NEW, hall -> hall.reply(0, 1, 3, 0), hall -> hall.reply(0, 1, 1, Check.NONE)};
        Scene[] tellings = {hall -> hall.giveUp(0), hall -> hall.reply(0, 1, 0, 4), hall -> hall.reply(0, 1, 2, 0)};
        for (Scene alarm : alarms) {
            for (Scene telling : tellings) {
                PatronHall hall = Scenes.asked(0, Check.GET).then(alarm).hall();
                check.due("it waits", hall.client(0, 0), 1);
                telling.play(hall);
                check.due("it is idle", hall.client(0, 0), 0);
                check.due("its alarm", hall.client(0, 6), Check.NONE);
                check.due("impatient", hall.client(0, 7), 0);
                check.due("requests OPEN", hall.client(0, 8), 0);
                check.due("clients that wait", hall.count(4), 0);
                check.due("nothing rings", hall.tick(1000), 0);
                check.due("requests", hall.count(3), 1);
            }
        }
    }

    /** "Each asking and each telling has a MOMENT (0, 1, .., in the order in which they happen)". */
    private static void momentsAreInOrder() {
        PatronHall hall = new PatronHall();
        Check.asked(hall, 7, Check.COUNT);
        Check.asked(hall, 0, Check.GET);
        Check.asked(hall, 3, Check.PUT);
        hall.giveUp(0);
        hall.reply(3, 1, 2, 0);
        Check.asked(hall, 0, Check.NEXT);
        hall.reply(7, 1, 0, 500);
        int[][] moments = {{0, 6}, {1, 3}, {2, 4}, {5, Check.NONE}};
        for (int i = 0; i < moments.length; i++) {
            check.due("the moment of asking " + i, hall.history(i, 2), moments[i][0]);
            check.due("the moment of its telling", hall.history(i, 3), moments[i][1]);
        }
        check.due("moments", hall.count(2), 7);
    }

    /** Those who give up in one tick are told in the order in which their alarms ring. */
    private static void momentsInOneTick() {
        Scene scene = Scenes.asked(5, Check.GET).then(Scenes.asked(2, Check.PUT));
        PatronHall hall = scene.then(Scenes.triesUpTo(5, 40)).then(Scenes.triesUpTo(2, 40)).hall();
        hall.reply(5, 1, 3, 0);
        hall.reply(2, 1, 1, Check.NONE);
        check.due("both ring", hall.tick(20), 2);
        check.due("2 was told first", hall.history(1, 3), 2);
        check.due("then 5", hall.history(0, 3), 3);
    }

    /** Neither refused askings nor requests, rings, OPEN's place, or replies for nothing have a moment. */
    private static void noMomentForNothing() {
        PatronHall hall = Scenes.asked(0, Check.PUT).hall();
        check.dueNoState("it waits", () -> Check.asked(hall, 0, Check.PUT));
        check.dueNoArgument("no such kind", () -> hall.ask(1, 6, 1, 0));
        hall.reply(0, 1, 0, 9);
        hall.reply(0, 1, 0, 9);
        hall.reply(0, 2, 1, 4);
        hall.reply(0, 2, 1, Check.NONE);
        hall.reply(0, 2, 3, 0);
        hall.tick(100);
        hall.giveUp(1);
        check.due("moments", hall.count(2), 1);
        check.due("the moment of the telling", hall.history(0, 3), Check.NONE);
    }
}
