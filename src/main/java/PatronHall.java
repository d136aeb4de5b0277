import java.util.ArrayList;

/**
 * Clients of servers of which one leads: what they ask, whom they ask, how long they wait, what they
 * were told, and when. The servers' part is played by the calls.
 */
public final class PatronHall {
    public static final int NONE = -1;

    private static final int CLIENTS = 8;
    private static final int SERVERS = 7;

    private static final int PUT = 0;
    private static final int SWAP = 1;
    private static final int REMOVE = 2;
    private static final int GET = 3;
    private static final int COUNT = 4;
    private static final int NEXT = 5;
    private static final int OPEN = 6;

    private static final int LEADER_ANSWERS = 0;
    private static final int ANOTHER_LEADS = 1;
    private static final int SESSION_IS_LOST = 2;
    private static final int SERVER_IS_BUSY = 3;

    private static final int NOTHING_YET = 0;
    private static final int DONE = 1;
    private static final int UNCLEAR = 2;
    private static final int GIVEN_UP = 3;

    private static final int MOST_TRIES = 40;
    private static final int PATIENCE = 60;
    private static final int PAUSE_WITHOUT_LEADER = 5;
    private static final int PAUSE_WHEN_BUSY = 20;
    private static final int LONGEST_TICK = 1000;

    private static final int MOST_ASKINGS = 1024;
    private static final int LAST_PLACE = 1000000;
    private static final int LONGEST_TAPE = 240;
    private static final int LONGEST_FEED = 8;
    private static final int LONGEST_KEY = 32;
    private static final int LONGEST_VALUE = 100;
    private static final int LONGEST_DATA = LONGEST_KEY + 2 * LONGEST_VALUE;
    private static final int LONGEST_ANSWER = 134;

    private final Patron[] patrons = new Patron[CLIENTS];
    private final ArrayList<Asking> askings = new ArrayList<>();
    private final RequestLog log = new RequestLog();
    private final byte[] tape = new byte[LONGEST_TAPE];
    private int tapeSize = 0;
    private int now = 0;
    private int moments = 0;
    private int alarmsMade = 0;

    public PatronHall() {
        for (int i = 0; i < CLIENTS; i++) {
            patrons[i] = new Patron(i);
        }
    }

    public int feed(long eight, int n) throws IllegalArgumentException, IllegalStateException {
        if (n < 1 || n > LONGEST_FEED) {
            throw new IllegalArgumentException("n is not 1 .. 8");
        }
        if (tapeSize > LONGEST_TAPE - n) {
            throw new IllegalStateException("the tape would have more than 240 bytes");
        }
        for (int i = 0; i < n; i++) {
            tape[tapeSize + i] = (byte) (eight >>> (8 * i));
        }
        tapeSize += n;
        return tapeSize;
    }

    public int ask(int client, int kind, int k, int v)
            throws IndexOutOfBoundsException, IllegalArgumentException, IllegalStateException {
        int size = takeTape();
        Patron patron = patronOf(client);
        if (!canBeAsked(kind, k, v, size)) {
            throw new IllegalArgumentException("kind, k, v or the tape are not so");
        }
        int before = askings.size();
        if (patron.waits() || before >= MOST_ASKINGS) {
            throw new IllegalStateException("the client waits, or 1024 were asked");
        }
        Asking asking = new Asking(client, kind, nextMoment());
        askings.add(asking);
        patron.begin(asking, tape, size);
        if (isCommand(kind) && patron.session == NONE) {
            requestOpen(patron);
        } else {
            requestWhatWasAsked(patron);
        }
        return before;
    }

    public boolean giveUp(int client) throws IndexOutOfBoundsException {
        Patron patron = patronOf(client);
        boolean waited = patron.waits();
        abandon(patron);
        return waited;
    }

    public boolean reply(int client, int request, int code, int value)
            throws IndexOutOfBoundsException, IllegalArgumentException {
        int size = takeTape();
        Patron patron = patronOf(client);
        if (!canBeReplied(code, value, size)) {
            throw new IllegalArgumentException("code, value or the tape are not so");
        }
        if (!patron.waits() || request != patron.number) {
            return false;
        }
        switch (code) {
            case LEADER_ANSWERS:
                hearAnswer(patron, value, size);
                break;
            case ANOTHER_LEADS:
                hearWhoLeads(patron, value);
                break;
            case SESSION_IS_LOST:
                patron.session = NONE;
                tell(patron, UNCLEAR, NONE);
                break;
            default:
                makeAlarm(patron, PAUSE_WHEN_BUSY, false);
                break;
        }
        return true;
    }

    public int tick(int n) throws IllegalArgumentException {
        if (n < 1 || n > LONGEST_TICK) {
            throw new IllegalArgumentException("n is not 1 .. 1000");
        }
        int end = now + n;
        int rang = 0;
        // Each ring costs its client a try, and one who gave up has no alarm: so there are no more.
        int mostRings = CLIENTS * (MOST_TRIES + 1);
        while (rang < mostRings) {
            Patron patron = firstToRing(end);
            if (patron == null) {
                break;
            }
            now = patron.alarmAt;
            ring(patron);
            rang++;
        }
        now = end;
        return rang;
    }

    public int client(int client, int what) throws IndexOutOfBoundsException {
        Patron patron = patronOf(client);
        switch (what) {
            case 0: return asInt(patron.waits());
            case 1: return patron.target;
            case 2: return patron.session;
            case 3: return patron.serial;
            case 4: return patron.number;
            case 5: return patron.tries;
            case 6: return patron.alarmAt;
            case 7: return asInt(patron.impatient);
            case 8: return asInt(patron.opening);
            default: throw new IndexOutOfBoundsException("a client has no such what");
        }
    }

    public int request(int k, int what) {
        return log.cell(k, what);
    }

    public int dataAt(int client, int i) throws IndexOutOfBoundsException {
        Patron patron = patronOf(client);
        if (i < 0 || i >= patron.dataSize) {
            throw new IndexOutOfBoundsException("no such byte was asked");
        }
        return patron.data[i] & 0xff;
    }

    public int answer(int client) throws IndexOutOfBoundsException {
        return patronOf(client).answerSize;
    }

    public int answerAt(int client, int i) throws IndexOutOfBoundsException {
        Patron patron = patronOf(client);
        if (i < 0 || i >= patron.answerSize) {
            throw new IndexOutOfBoundsException("the answer has no such byte");
        }
        return patron.answer[i] & 0xff;
    }

    public int history(int i, int what) throws IndexOutOfBoundsException {
        if (i < 0 || i >= askings.size()) {
            throw new IndexOutOfBoundsException("there is no such asking");
        }
        Asking asking = askings.get(i);
        switch (what) {
            case 0: return asking.client;
            case 1: return asking.kind;
            case 2: return asking.moment;
            case 3: return asking.toldMoment;
            case 4: return asking.told;
            case 5: return asking.place;
            default: throw new IndexOutOfBoundsException("an asking has no such what");
        }
    }

    public int count(int what) {
        switch (what) {
            case 0: return now;
            case 1: return askings.size();
            case 2: return moments;
            case 3: return log.total;
            case 4: return howManyWait();
            case 5: return tapeSize;
            default: return NONE;
        }
    }

    private Patron patronOf(int client) {
        if (client < 0 || client >= CLIENTS) {
            throw new IndexOutOfBoundsException("there is no such client");
        }
        return patrons[client];
    }

    /** Empties the tape before anything can throw; its bytes stay readable until the next feed. */
    private int takeTape() {
        int size = tapeSize;
        tapeSize = 0;
        return size;
    }

    private int nextMoment() {
        int moment = moments;
        moments++;
        return moment;
    }

    private int howManyWait() {
        int waiting = 0;
        for (int i = 0; i < CLIENTS; i++) {
            waiting += asInt(patrons[i].waits());
        }
        return waiting;
    }

    private void requestOpen(Patron patron) {
        patron.opening = true;
        patron.number++;
        send(patron);
    }

    private void requestWhatWasAsked(Patron patron) {
        patron.opening = false;
        patron.number++;
        if (isCommand(patron.kind)) {
            patron.serial++;
        }
        send(patron);
    }

    private void send(Patron patron) {
        patron.tries++;
        if (patron.tries > MOST_TRIES) {
            abandon(patron);
            return;
        }
        log.add(patron, now);
        makeAlarm(patron, PATIENCE, true);
    }

    private void makeAlarm(Patron patron, int wait, boolean impatient) {
        patron.alarmAt = now + wait;
        patron.alarmOrder = alarmsMade;
        patron.impatient = impatient;
        alarmsMade++;
    }

    private void ring(Patron patron) {
        if (patron.impatient) {
            patron.turnToNextServer();
        }
        send(patron);
    }

    private Patron firstToRing(int end) {
        Patron first = null;
        for (int i = 0; i < CLIENTS; i++) {
            Patron patron = patrons[i];
            if (patron.alarmAt != NONE && patron.alarmAt <= end
                    && (first == null || patron.ringsBefore(first))) {
                first = patron;
            }
        }
        return first;
    }

    private void hearAnswer(Patron patron, int place, int size) {
        if (patron.opening) {
            patron.session = place;
            patron.serial = 0;
            requestWhatWasAsked(patron);
        } else {
            patron.keepAnswer(tape, size);
            tell(patron, DONE, place);
        }
    }

    private void hearWhoLeads(Patron patron, int server) {
        if (server == NONE) {
            patron.turnToNextServer();
            makeAlarm(patron, PAUSE_WITHOUT_LEADER, false);
        } else {
            patron.target = server;
            send(patron);
        }
    }

    private void abandon(Patron patron) {
        if (!patron.waits()) {
            return;
        }
        if (isCommand(patron.kind)) {
            patron.session = NONE;
            tell(patron, UNCLEAR, NONE);
        } else {
            tell(patron, GIVEN_UP, NONE);
        }
    }

    private void tell(Patron patron, int told, int place) {
        Asking asking = patron.asking;
        if (asking == null) {
            return;
        }
        asking.told = told;
        asking.place = place;
        asking.toldMoment = nextMoment();
        patron.becomeIdle();
    }

    private static int asInt(boolean yes) {
        return yes ? 1 : 0;
    }

    private static boolean isCommand(int kind) {
        return kind == PUT || kind == SWAP || kind == REMOVE;
    }

    private static boolean isKeySize(int size) {
        return size >= 1 && size <= LONGEST_KEY;
    }

    private static boolean isValueSize(int size) {
        return size >= 0 && size <= LONGEST_VALUE;
    }

    private static boolean canBeAsked(int kind, int k, int v, int size) {
        if (!isKeySize(k) || !isValueSize(v) || (v != 0 && kind != SWAP)) {
            return false;
        }
        int others = size - k - v;
        switch (kind) {
            case PUT:
            case SWAP:
                return isValueSize(others);
            case REMOVE:
            case GET:
            case NEXT:
                return others == 0;
            case COUNT:
                return isKeySize(others);
            default:
                return false;
        }
    }

    private static boolean canBeReplied(int code, int value, int size) {
        switch (code) {
            case LEADER_ANSWERS:
                return value >= 1 && value <= LAST_PLACE && size <= LONGEST_ANSWER;
            case ANOTHER_LEADS:
                return (value == NONE || (value >= 0 && value < SERVERS)) && size == 0;
            case SESSION_IS_LOST:
            case SERVER_IS_BUSY:
                return value == 0 && size == 0;
            default:
                return false;
        }
    }

    /** One client: whom it asks, in which session, and what it waits for. */
    private static final class Patron {
        final int index;
        final byte[] data = new byte[LONGEST_DATA];
        final byte[] answer = new byte[LONGEST_ANSWER];
        int dataSize = 0;
        int answerSize = 0;
        /** Null while the client is idle. */
        Asking asking = null;
        int kind = PUT;
        int target = 0;
        int session = NONE;
        int serial = 0;
        int number = 0;
        int tries = 0;
        boolean opening = false;
        int alarmAt = NONE;
        int alarmOrder = 0;
        boolean impatient = false;

        Patron(int index) {
            this.index = index;
        }

        boolean waits() {
            return asking != null;
        }

        void begin(Asking begun, byte[] bytes, int size) {
            asking = begun;
            kind = begun.kind;
            tries = 0;
            dataSize = copyInto(data, bytes, size);
        }

        void keepAnswer(byte[] bytes, int size) {
            answerSize = copyInto(answer, bytes, size);
        }

        void becomeIdle() {
            asking = null;
            opening = false;
            alarmAt = NONE;
            impatient = false;
        }

        void turnToNextServer() {
            target = target + 1 < SERVERS ? target + 1 : 0;
        }

        boolean ringsBefore(Patron other) {
            return alarmAt < other.alarmAt
                    || (alarmAt == other.alarmAt && alarmOrder < other.alarmOrder);
        }

        private static int copyInto(byte[] row, byte[] bytes, int size) {
            int fitting = Math.min(size, Math.min(row.length, bytes.length));
            for (int i = 0; i < fitting; i++) {
                row[i] = bytes[i];
            }
            return fitting;
        }
    }

    /** One line of the history. */
    private static final class Asking {
        final int client;
        final int kind;
        final int moment;
        int toldMoment = NONE;
        int told = NOTHING_YET;
        int place = NONE;

        Asking(int client, int kind, int moment) {
            this.client = client;
            this.kind = kind;
            this.moment = moment;
        }
    }

    /** The latest requests as they went, in one row of cells that is written round and round. */
    private static final class RequestLog {
        /** A power of two, so that a mask finds the place in the row. */
        private static final int KEPT = 64;
        private static final int CELLS = 8;

        final int[] cells = new int[KEPT * CELLS];
        int total = 0;

        void add(Patron patron, int now) {
            boolean inSession = !patron.opening && isCommand(patron.kind);
            int at = firstCell(total);
            cells[at] = patron.index;
            cells[at + 1] = patron.target;
            cells[at + 2] = patron.number;
            cells[at + 3] = patron.opening ? OPEN : patron.kind;
            cells[at + 4] = inSession ? patron.session : NONE;
            cells[at + 5] = inSession ? patron.serial : 0;
            cells[at + 6] = patron.opening ? 0 : patron.dataSize;
            cells[at + 7] = now;
            total++;
        }

        int cell(int k, int what) {
            if (k < 0 || k >= KEPT || k >= total || what < 0 || what >= CELLS) {
                return NONE;
            }
            return cells[firstCell(total - 1 - k) + what];
        }

        private static int firstCell(int which) {
            return (which & (KEPT - 1)) * CELLS;
        }
    }
}
