/** Terms: ITS ALARM RINGS. */
public final class TermsAlarmTest {
    private static final Check check = new Check();

    public static void main(String[] args) {
        impatientTurnsToTheNextServer();
        patientStaysWithTheTarget();
        allElseIsTheSame();
        check.end();
    }

    /** "is it to be impatient, the target is the next server", and behind 6 comes 0. */
    private static void impatientTurnsToTheNextServer() {
        for (int from = 0; from <= 6; from++) {
            PatronHall hall = Scenes.asked(0, Check.GET).hall();
            hall.reply(0, 1, 1, from);
            int next = from == 6 ? 0 : from + 1;
            check.due("the alarm", hall.tick(60), 1);
            check.dueClient(hall, 0, 1, next, Check.NONE, 0, 1, 3, 120, 1, 0);
            check.dueRequest(hall, 0, 0, next, 1, Check.GET, Check.NONE, 0, 1, 60);
            check.dueRequest(hall, 1, 0, from, 1, Check.GET, Check.NONE, 0, 1, 0);
        }
    }

    /** Only an impatient one turns; the alarm that is made as it requests again is impatient. */
    private static void patientStaysWithTheTarget() {
        for (int from = 0; from <= 6; from++) {
            PatronHall hall = Scenes.asked(0, Check.GET).hall();
            hall.reply(0, 1, 1, from);
            hall.reply(0, 1, 3, 0);
            check.due("impatient", hall.client(0, 7), 0);
            check.due("the alarm", hall.tick(20), 1);
            check.dueClient(hall, 0, 1, from, Check.NONE, 0, 1, 3, 80, 1, 0);
        }
    }

    /** "it requests again (the same request number, all else the same)": OPEN, a command, a read. */
    private static void allElseIsTheSame() {
        for (int kind = Check.PUT; kind <= Check.NEXT; kind++) {
            for (boolean inSession : new boolean[] {false, true}) {
                PatronHall hall = Scenes.waiting(5, kind, inSession).hall();
                hall.tick(60);
                check.due("the target of the first", hall.request(1, 1), 0);
                check.due("the target of the second", hall.request(0, 1), 1);
                for (int what : new int[] {0, 2, 3, 4, 5, 6}) {
                    check.due("what " + what + " of the second", hall.request(0, what), hall.request(1, what));
                }
                check.due("moments", hall.count(2), inSession ? 3 : 1);
                check.due("TRIES", hall.client(5, 5), 2);
            }
        }
    }
}
