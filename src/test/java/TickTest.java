/** Promise 6. */
public final class TickTest {
    private static final Check check = new Check();

    public static void main(String[] args) {
        timeGoesOn();
        nIsNoneOfThese();
        allAlarmsUpToThat();
        inTheOrderOfTheirTimes();
        ofEqualOnesTheOneMadeFirst();
        madeAnewIsMadeLater();
        nowIsTheAlarmsTime();
        alarmsOfTheSameTick();
        howManyRang();
        givingUpRingsToo();
        nothingElseChanges();
        check.end();
    }

    /** "Time goes on to NOW + n (1 .. 1000)", whether or not something rings. */
    private static void timeGoesOn() {
        for (Scene before : new Scene[] {Scenes.NEW, Scenes.BUSY}) {
            for (int n : new int[] {1, 2, 999, 1000}) {
                PatronHall hall = before.hall();
                int now = hall.count(0);
                hall.tick(n);
                check.due("NOW", hall.count(0), now + n);
                hall.tick(1);
                check.due("NOW", hall.count(0), now + n + 1);
            }
        }
    }

    /** "IllegalArgumentException, when n is none of these". */
    private static void nIsNoneOfThese() {
        check.due("tick(1)", new PatronHall().tick(1), 0);
        check.due("tick(1000)", new PatronHall().tick(1000), 0);
        for (int n : new int[] {0, -1, 1001, -1000, Integer.MIN_VALUE, Integer.MAX_VALUE}) {
            check.refusedForArgument("tick(" + n + ")", Scenes.NEW, hall -> hall.tick(n));
            check.refusedForArgument("tick(" + n + ")", Scenes.BUSY_WITH_TAPE, hall -> hall.tick(n));
        }
    }

    /** "all alarms up to that ring": the one at NOW + n does, the one behind it does not. */
    private static void allAlarmsUpToThat() {
        for (int n : new int[] {59, 60, 61}) {
            PatronHall hall = Scenes.asked(0, Check.GET).hall();
            check.due("tick(" + n + ")", hall.tick(n), n < 60 ? 0 : 1);
            check.due("requests", hall.count(3), n < 60 ? 1 : 2);
        }
        PatronHall hall = new PatronHall();
        for (int client = 0; client < 3; client++) {
            hall.tick(1);
            Check.asked(hall, client, Check.GET);
        }
        check.due("to 62, with alarms at 61, 62, 63", hall.tick(59), 2);
        check.due("to 63", hall.tick(1), 1);
    }

    /** "in the order of their times", not in that of their making or of the clients. */
    private static void inTheOrderOfTheirTimes() {
        PatronHall hall = Scenes.asked(0, Check.GET).then(Scenes.asked(1, Check.GET)).then(Scenes.asked(2, Check.GET)).hall();
        hall.reply(1, 1, 3, 0);
        hall.reply(2, 1, 1, Check.NONE);
        check.due("all ring", hall.tick(60), 3);
        int[][] wants = {{0, 60}, {1, 20}, {2, 5}};
        for (int k = 0; k < 3; k++) {
            check.due("request(" + k + ", 0)", hall.request(k, 0), wants[k][0]);
            check.due("request(" + k + ", 7)", hall.request(k, 7), wants[k][1]);
        }
    }

    /** "of equal ones the one that was made first", by whatever it was made, and whoever's it is. */
    private static void ofEqualOnesTheOneMadeFirst() {
        PatronHall hall = new PatronHall();
        Check.asked(hall, 6, Check.GET);
        Check.asked(hall, 4, Check.GET);
        Check.asked(hall, 7, Check.GET);
        hall.tick(10);
        Check.asked(hall, 1, Check.GET);
        Check.asked(hall, 5, Check.GET);
        hall.tick(30);
        hall.reply(5, 1, 3, 0);
        hall.tick(15);
        hall.reply(1, 1, 1, Check.NONE);
        check.due("all ring at 60", hall.tick(5), 5);
        dueClients(hall, 1, 5, 7, 4, 6);
        check.due("again at 120", hall.tick(60), 5);
        dueClients(hall, 1, 5, 7, 4, 6);
    }

    private static void dueClients(PatronHall hall, int... latestFirst) {
        for (int k = 0; k < latestFirst.length; k++) {
            check.due("request(" + k + ", 0)", hall.request(k, 0), latestFirst[k]);
        }
    }

    /** An alarm made anew for the same time stands behind those that were made before it. */
    private static void madeAnewIsMadeLater() {
        PatronHall hall = Scenes.asked(0, Check.GET).then(Scenes.asked(1, Check.GET)).hall();
        hall.reply(0, 1, 3, 0);
        hall.reply(1, 1, 3, 0);
        hall.reply(0, 1, 3, 0);
        check.due("both ring once", hall.tick(20), 2);
        dueClients(hall, 0, 1);
        PatronHall other = Scenes.asked(0, Check.GET).then(Scenes.asked(1, Check.GET)).hall();
        other.reply(0, 1, 1, 0);
        check.due("both ring once", other.tick(60), 2);
        dueClients(other, 0, 1);
    }

    /** "NOW is the alarm's time as it rings": its request went then, and its next alarm counts from there. */
    private static void nowIsTheAlarmsTime() {
        PatronHall hall = Scenes.asked(0, Check.GET).then(h -> h.tick(30)).then(Scenes.asked(1, Check.GET)).hall();
        check.due("rings", hall.tick(100), 3);
        check.due("NOW", hall.count(0), 130);
        check.due("the latest went", hall.request(0, 7), 120);
        check.due("the one before it", hall.request(1, 7), 90);
        check.due("the one before that", hall.request(2, 7), 60);
        check.due("the next alarm of 0", hall.client(0, 6), 180);
        check.due("the next alarm of 1", hall.client(1, 6), 150);
    }

    /** An alarm that is made in a tick rings in it too, up to its end. */
    private static void alarmsOfTheSameTick() {
        int[][] wants = {{119, 1}, {120, 2}, {179, 2}, {180, 3}, {959, 15}, {960, 16}, {1000, 16}};
        for (int[] want : wants) {
            PatronHall hall = Scenes.asked(0, Check.GET).hall();
            check.due("tick(" + want[0] + ")", hall.tick(want[0]), want[1]);
            check.due("TARGET", hall.client(0, 1), want[1] % 7);
            check.due("TRIES", hall.client(0, 5), want[1] + 1);
        }
        PatronHall hall = Scenes.asked(0, Check.GET).then(h -> h.reply(0, 1, 1, Check.NONE)).hall();
        check.due("at 5 and at 65", hall.tick(65), 2);
        check.due("the first leaves the target, the second does not", hall.client(0, 1), 2);
    }

    /** "how many rang": all of all clients. */
    private static void howManyRang() {
        PatronHall hall = new PatronHall();
        for (int client = 0; client < 8; client++) {
            Check.asked(hall, client, Check.GET);
        }
        check.due("none", hall.tick(59), 0);
        check.due("one each", hall.tick(1), 8);
        check.due("sixteen each", hall.tick(960), 128);
        check.due("requests", hall.count(3), 8 + 8 + 128);
    }

    /** The 40th ring of an asking gives up: it rang, but nothing went. */
    private static void givingUpRingsToo() {
        PatronHall hall = Scenes.asked(0, Check.GET).then(Scenes.asked(1, Check.PUT)).hall();
        check.due("to 1000", hall.tick(1000), 32);
        check.due("to 2000", hall.tick(1000), 34);
        check.due("to 2399", hall.tick(399), 12);
        check.dueClient(hall, 0, 1, 4, Check.NONE, 0, 1, 40, 2400, 1, 0);
        check.due("requests", hall.count(3), 80);
        check.due("to 2400", hall.tick(1), 2);
        check.dueClient(hall, 0, 0, 5, Check.NONE, 0, 1, 41, Check.NONE, 0, 0);
        check.dueClient(hall, 1, 0, 5, Check.NONE, 0, 1, 41, Check.NONE, 0, 0);
        check.dueHistory(hall, 0, 0, Check.GET, 0, 2, 3, Check.NONE);
        check.dueHistory(hall, 1, 1, Check.PUT, 1, 3, 2, Check.NONE);
        check.due("nothing rings", hall.tick(1000), 0);
        check.due("requests", hall.count(3), 80);
    }

    /** Ticks that ring nothing add up, and the tape stays. */
    private static void nothingElseChanges() {
        Scene twice = Scenes.BUSY_WITH_TAPE.then(hall -> hall.tick(1)).then(hall -> hall.tick(2));
        check.dueSame("two ticks", Scenes.BUSY_WITH_TAPE.then(hall -> hall.tick(3)), twice);
        Scene many = Scenes.BUSY_WITH_TAPE;
        for (int i = 0; i < 130; i++) {
            many = many.then(hall -> hall.tick(1));
        }
        check.dueSame("130 ticks", Scenes.BUSY_WITH_TAPE.then(hall -> hall.tick(130)), many);
    }
}
