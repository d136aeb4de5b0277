/** Promise 9. */
public final class DataAtTest {
    private static final Check check = new Check();

    public static void main(String[] args) {
        valuesAre0To255();
        longestAsking();
        whatItAskedLast();
        refusedAskingsDoNotCount();
        fromTheAskingOn();
        noSuchByte();
        noSuchClient();
        lookingChangesNothing();
        check.end();
    }

    /** "Byte i (its value is 0 .. 255)". */
    private static void valuesAre0To255() {
        for (int start = 0; start < 256; start += 32) {
            PatronHall hall = new PatronHall();
            int[] wants = new int[32];
            for (int i = 0; i < 32; i++) {
                wants[i] = start + i;
                hall.feed(start + i, 1);
            }
            hall.ask(1, Check.GET, 32, 0);
            check.dueData(hall, 1, wants);
        }
    }

    /** All 232 bytes of the longest SWAP: key, expected value, new value. */
    private static void longestAsking() {
        PatronHall hall = Check.fed(new PatronHall(), 232);
        hall.ask(1, Check.SWAP, 32, 100);
        int[] wants = new int[232];
        for (int i = 0; i < 232; i++) {
            wants[i] = i + 1;
        }
        check.dueData(hall, 1, wants);
    }

    /** "of what a client asked last": a shorter asking leaves nothing of a longer one, and other clients' stay. */
    private static void whatItAskedLast() {
        PatronHall hall = Check.fed(new PatronHall(), 9);
        hall.ask(0, Check.GET, 9, 0);
        Check.fed(hall, 4).ask(1, Check.GET, 4, 0);
        hall.giveUp(0);
        hall.feed(0x8000, 2);
        hall.ask(0, Check.REMOVE, 2, 0);
        check.dueData(hall, 0, 0, 128);
        check.dueData(hall, 1, 1, 2, 3, 4);
        check.dueData(hall, 2);
        hall.giveUp(0);
        Check.fed(hall, 3).ask(0, Check.GET, 3, 0);
        check.dueData(hall, 0, 1, 2, 3);
    }

    private static void refusedAskingsDoNotCount() {
        PatronHall hall = Check.fed(new PatronHall(), 3);
        hall.ask(0, Check.GET, 3, 0);
        hall.feed(0x0808080808L, 5);
        check.dueNoState("it waits", () -> hall.ask(0, Check.GET, 5, 0));
        check.dueData(hall, 0, 1, 2, 3);
        hall.giveUp(0);
        hall.feed(0x0808080808L, 5);
        check.dueNoArgument("a wrong key", () -> hall.ask(0, Check.GET, 4, 0));
        check.dueData(hall, 0, 1, 2, 3);
    }

    /** While it requests OPEN, when it is told, and while the tape has other bytes. */
    private static void fromTheAskingOn() {
        PatronHall hall = Check.fed(new PatronHall(), 4);
        hall.ask(0, Check.PUT, 1, 0);
        check.dueData(hall, 0, 1, 2, 3, 4);
        hall.feed(-1, 8);
        check.dueData(hall, 0, 1, 2, 3, 4);
        hall.reply(0, 1, 0, 5);
        check.dueData(hall, 0, 1, 2, 3, 4);
        hall.feed(-1, 8);
        hall.reply(0, 2, 0, 6);
        check.dueData(hall, 0, 1, 2, 3, 4);
    }

    /** "IndexOutOfBoundsException, when there is no such .. byte". */
    private static void noSuchByte() {
        for (int client = 0; client < 8; client++) {
            int c = client;
            int size = c == 7 ? 0 : c == 2 ? 6 : c == 6 ? 2 : 1;
            if (size > 0) {
                check.due("the last byte", Scenes.BUSY.hall().dataAt(c, size - 1), size);
            }
            for (int i : new int[] {-1, size, size + 1, 231, 232, 240, Integer.MIN_VALUE, Integer.MAX_VALUE}) {
                check.refusedForIndex("dataAt(" + c + ", " + i + ")", Scenes.BUSY_WITH_TAPE, hall -> hall.dataAt(c, i));
            }
        }
    }

    /** "IndexOutOfBoundsException, when there is no such client". */
    private static void noSuchClient() {
        for (int client : new int[] {0, 7}) {
            check.due("dataAt(" + client + ", 0)", Scenes.asked(client, Check.GET).hall().dataAt(client, 0), 1);
        }
        for (int client : Check.NO_CLIENTS) {
            for (int i : new int[] {-1, 0, 1}) {
                check.refusedForIndex("dataAt(" + client + ", " + i + ")", Scenes.BUSY_WITH_TAPE,
                        hall -> hall.dataAt(client, i));
            }
        }
    }

    private static void lookingChangesNothing() {
        check.dueSame("dataAt(2, 5)", Scenes.BUSY_WITH_TAPE, Scenes.BUSY_WITH_TAPE.then(hall -> hall.dataAt(2, 5)));
    }
}
