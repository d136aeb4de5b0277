import java.util.Arrays;
import java.util.Map;

/** Counts the answers that are not due, and brings halls into the states that the tests start from. */
final class Check {
    static final int PUT = 0;
    static final int SWAP = 1;
    static final int REMOVE = 2;
    static final int GET = 3;
    static final int COUNT = 4;
    static final int NEXT = 5;
    static final int OPEN = 6;
    static final int NONE = PatronHall.NONE;

    static final int[] COMMANDS = {PUT, SWAP, REMOVE};
    static final int[] READS = {GET, COUNT, NEXT};
    static final int[] NO_CLIENTS = {-1, 8, Integer.MIN_VALUE, Integer.MAX_VALUE};

    private static final Class<IndexOutOfBoundsException> NO_INDEX = IndexOutOfBoundsException.class;
    private static final Class<IllegalArgumentException> NO_ARGUMENT = IllegalArgumentException.class;
    private static final Class<IllegalStateException> NO_STATE = IllegalStateException.class;

    private int wrong = 0;

    void due(String call, long got, long want) {
        if (got != want) {
            say(call + " answered " + got + ", due is " + want);
        }
    }

    void due(String call, boolean got, boolean want) {
        due(call, got ? 1 : 0, want ? 1 : 0);
    }

    /**
     * The class must be the very one, since the machine's own exceptions are classes below those of the document;
     * and PatronHall itself must have thrown it, not the library.
     */
    private void dueThrow(String call, Class<? extends RuntimeException> want, Runnable doing) {
        try {
            doing.run();
        } catch (RuntimeException e) {
            if (e.getClass() != want || !e.getStackTrace()[0].getClassName().equals("PatronHall")) {
                say(call + " threw " + e + ", due is " + want.getSimpleName());
            }
            return;
        }
        say(call + " threw nothing, due is " + want.getSimpleName());
    }

    void dueNoIndex(String call, Runnable doing) {
        dueThrow(call, NO_INDEX, doing);
    }

    void dueNoArgument(String call, Runnable doing) {
        dueThrow(call, NO_ARGUMENT, doing);
    }

    void dueNoState(String call, Runnable doing) {
        dueThrow(call, NO_STATE, doing);
    }

    /** What is thrown is due, and behind it all other calls show what they show without the refused call. */
    private void dueRefused(String call, Class<? extends RuntimeException> want, Scene before, Scene refused) {
        PatronHall hall = before.hall();
        dueThrow(call, want, () -> refused.play(hall));
        dueSame(call, before, before.then(refused.attempted()));
    }

    void refusedForIndex(String call, Scene before, Scene refused) {
        dueRefused(call, NO_INDEX, before, refused);
    }

    void refusedForArgument(String call, Scene before, Scene refused) {
        dueRefused(call, NO_ARGUMENT, before, refused);
    }

    void refusedForState(String call, Scene before, Scene refused) {
        dueRefused(call, NO_STATE, before, refused);
    }

    /** All calls show the same behind both. */
    void dueSame(String call, Scene want, Scene got) {
        Map<String, String> wants = Picture.of(want);
        Map<String, String> gots = Picture.of(got);
        if (!wants.keySet().equals(gots.keySet())) {
            say("behind " + call + " the history is not as long as is due");
        }
        for (Map.Entry<String, String> row : wants.entrySet()) {
            String shown = gots.getOrDefault(row.getKey(), "nothing");
            if (!row.getValue().equals(shown)) {
                say("behind " + call + " " + row.getKey() + " shows " + shown + ", due is " + row.getValue());
            }
        }
    }

    /** The answers of client(client, 0), client(client, 1), .. as far as they are told. */
    void dueClient(PatronHall hall, int client, int... wants) {
        for (int what = 0; what < wants.length; what++) {
            due("client(" + client + ", " + what + ")", hall.client(client, what), wants[what]);
        }
    }

    void dueRequest(PatronHall hall, int k, int... wants) {
        for (int what = 0; what < wants.length; what++) {
            due("request(" + k + ", " + what + ")", hall.request(k, what), wants[what]);
        }
    }

    void dueHistory(PatronHall hall, int i, int... wants) {
        for (int what = 0; what < wants.length; what++) {
            due("history(" + i + ", " + what + ")", hall.history(i, what), wants[what]);
        }
    }

    void dueCounts(PatronHall hall, int... wants) {
        for (int what = 0; what < wants.length; what++) {
            due("count(" + what + ")", hall.count(what), wants[what]);
        }
    }

    /** What the client asked last is these bytes and no more. */
    void dueData(PatronHall hall, int client, int... wants) {
        for (int i = 0; i < wants.length; i++) {
            due("dataAt(" + client + ", " + i + ")", hall.dataAt(client, i), wants[i]);
        }
        dueNoIndex("dataAt(" + client + ", " + wants.length + ")", () -> hall.dataAt(client, wants.length));
    }

    /** The client's answer is these bytes and no more. */
    void dueAnswer(PatronHall hall, int client, int... wants) {
        due("answer(" + client + ")", hall.answer(client), wants.length);
        for (int i = 0; i < wants.length; i++) {
            due("answerAt(" + client + ", " + i + ")", hall.answerAt(client, i), wants[i]);
        }
        dueNoIndex("answerAt(" + client + ", " + wants.length + ")", () -> hall.answerAt(client, wants.length));
    }

    void say(String fault) {
        wrong++;
        StackTraceElement[] trace = Thread.currentThread().getStackTrace();
        String line = Arrays.stream(trace)
                .filter(t -> t.getClassName().endsWith("Test"))
                .map(t -> t.getMethodName() + ":" + t.getLineNumber())
                .findFirst().orElse("");
        System.out.println(line + " " + fault);
    }

    void end() {
        if (wrong != 0) {
            System.out.println(wrong + " answers are not as due");
            System.exit(1);
        }
    }

    /** A hall whose tape holds the bytes 1, 2, .., size behind what it held. */
    static PatronHall fed(PatronHall hall, int size) {
        int at = 1;
        while (at <= size) {
            int n = Math.min(8, size - at + 1);
            long eight = 0;
            for (int i = n - 1; i >= 0; i--) {
                eight = eight << 8 | (at + i) & 0xff;
            }
            hall.feed(eight, n);
            at += n;
        }
        return hall;
    }

    static int asked(PatronHall hall, int client, int kind) {
        return fed(hall, kind == COUNT ? 2 : 1).ask(client, kind, 1, 0);
    }

    /** For a new client: its session is the place, its serial 1, its request number 2, and it is idle. */
    static PatronHall withSession(PatronHall hall, int client, int place) {
        asked(hall, client, PUT);
        hall.reply(client, 1, 0, place);
        hall.reply(client, 2, 0, place < 1000000 ? place + 1 : place);
        return hall;
    }

    static boolean isCommand(int kind) {
        return kind == PUT || kind == SWAP || kind == REMOVE;
    }
}
