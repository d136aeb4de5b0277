/** Terms: what a client is and has. */
public final class TermsClientTest {
    private static final Check check = new Check();
    private static final int[] WAITS = {60, 20, 5};

    public static void main(String[] args) {
        clientsAre0To7();
        serversAre0To6();
        nowIs0AtFirst();
        allIs0OrNoneAtFirst();
        alarmMadeAnewTakesThePlace();
        noneIsMinusOne();
        check.end();
    }

    /** "CLIENTS 0 .. 7": all eight can wait at once, and there is no ninth. */
    private static void clientsAre0To7() {
        PatronHall hall = new PatronHall();
        for (int client = 0; client <= 7; client++) {
            check.due("ask of client " + client, Check.asked(hall, client, Check.GET), client);
            check.due("client(" + client + ", 0)", hall.client(client, 0), 1);
        }
        check.due("clients that wait", hall.count(4), 8);
        check.dueNoIndex("client(-1, 0)", () -> hall.client(-1, 0));
        check.dueNoIndex("client(8, 0)", () -> hall.client(8, 0));
    }

    /** "SERVERS 0 .. 6". */
    private static void serversAre0To6() {
        for (int server = 0; server <= 6; server++) {
            PatronHall hall = Scenes.asked(0, Check.GET).hall();
            check.due("reply with server " + server, hall.reply(0, 1, 1, server), true);
            check.due("TARGET", hall.client(0, 1), server);
        }
        for (int server : new int[] {-2, 7}) {
            check.refusedForArgument("reply with server " + server, Scenes.BUSY, hall -> hall.reply(1, 1, 1, server));
        }
    }

    /** "NOW is 0 at first". */
    private static void nowIs0AtFirst() {
        check.due("NOW", new PatronHall().count(0), 0);
        check.due("when the first request went", Scenes.asked(0, Check.GET).hall().request(0, 7), 0);
    }

    /** "It has a TARGET (0 at first), a SESSION or none, a SERIAL (0 at first), a REQUEST number (0 at first)". */
    private static void allIs0OrNoneAtFirst() {
        PatronHall hall = new PatronHall();
        for (int client = 0; client <= 7; client++) {
            check.dueClient(hall, client, 0, 0, Check.NONE, 0, 0, 0, Check.NONE, 0, 0);
        }
    }

    /** "at most one: one that is made anew takes the place of the one before", be it earlier or later than that. */
    private static void alarmMadeAnewTakesThePlace() {
        for (int before : WAITS) {
            for (int anew : WAITS) {
                PatronHall hall = Scenes.asked(0, Check.GET).hall();
                makeAlarm(hall, before);
                check.due("the alarm of " + before, hall.client(0, 6), before);
                hall.tick(1);
                makeAlarm(hall, anew);
                int requests = hall.count(3);
                check.due("the alarm of " + anew + " made anew", hall.client(0, 6), 1 + anew);
                check.due("impatient", hall.client(0, 7), anew == 60 ? 1 : 0);
                check.due(before + ", then " + anew + ": too early", hall.tick(anew - 1), 0);
                check.due(before + ", then " + anew + ": in time", hall.tick(1), 1);
                check.due("it requests once", hall.count(3), requests + 1);
                check.due(before + ", then " + anew + ": the one before is gone", hall.tick(59), 0);
                check.due("the next one", hall.tick(1), 1);
            }
        }
    }

    private static void makeAlarm(PatronHall hall, int wait) {
        if (wait == 60) {
            hall.reply(0, 1, 1, 0);
        } else if (wait == 20) {
            hall.reply(0, 1, 3, 0);
        } else {
            hall.reply(0, 1, 1, Check.NONE);
        }
    }

    /** "NONE = -1". */
    private static void noneIsMinusOne() {
        check.due("NONE", PatronHall.NONE, -1);
    }
}
