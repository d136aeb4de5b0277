import java.util.Arrays;

/** Counts the answers that are not due, and brings halls into the states that the tests start from. */
final class Check {
    static final int PUT = 0;
    static final int SWAP = 1;
    static final int REMOVE = 2;
    static final int GET = 3;
    static final int COUNT = 4;
    static final int NEXT = 5;
    static final int OPEN = 6;
    static final int NONE = PatronHall.NONE;

    private int wrong = 0;

    void due(String call, long got, long want) {
        if (got != want) {
            say(call + " answered " + got + ", due is " + want);
        }
    }

    void due(String call, boolean got, boolean want) {
        due(call, got ? 1 : 0, want ? 1 : 0);
    }

    /**
     * The class must be the very one, since the machine's own exceptions are classes below those of the document;
     * and PatronHall itself must have thrown it, not the library.
     */
    void dueThrow(String call, Class<? extends RuntimeException> want, Runnable doing) {
        try {
            doing.run();
        } catch (RuntimeException e) {
            if (e.getClass() != want || !e.getStackTrace()[0].getClassName().equals("PatronHall")) {
                say(call + " threw " + e + ", due is " + want.getSimpleName());
            }
            return;
        }
        say(call + " threw nothing, due is " + want.getSimpleName());
    }

    void dueNoIndex(String call, Runnable doing) {
        dueThrow(call, IndexOutOfBoundsException.class, doing);
    }

    void dueNoArgument(String call, Runnable doing) {
        dueThrow(call, IllegalArgumentException.class, doing);
    }

    void dueNoState(String call, Runnable doing) {
        dueThrow(call, IllegalStateException.class, doing);
    }

    /** The answers of client(client, 0), client(client, 1), .. as far as they are told. */
    void dueClient(PatronHall hall, int client, int... wants) {
        for (int what = 0; what < wants.length; what++) {
            due("client(" + client + ", " + what + ")", hall.client(client, what), wants[what]);
        }
    }

    void dueRequest(PatronHall hall, int k, int... wants) {
        for (int what = 0; what < wants.length; what++) {
            due("request(" + k + ", " + what + ")", hall.request(k, what), wants[what]);
        }
    }

    void dueHistory(PatronHall hall, int i, int... wants) {
        for (int what = 0; what < wants.length; what++) {
            due("history(" + i + ", " + what + ")", hall.history(i, what), wants[what]);
        }
    }

    void dueCounts(PatronHall hall, int... wants) {
        for (int what = 0; what < wants.length; what++) {
            due("count(" + what + ")", hall.count(what), wants[what]);
        }
    }

    void say(String fault) {
        wrong++;
        StackTraceElement[] trace = Thread.currentThread().getStackTrace();
        String line = Arrays.stream(trace)
                .filter(t -> t.getClassName().endsWith("Test"))
                .map(t -> t.getMethodName() + ":" + t.getLineNumber())
                .findFirst().orElse("");
        System.out.println(line + " " + fault);
    }

    void end() {
        if (wrong != 0) {
            System.out.println(wrong + " answers are not as due");
            System.exit(1);
        }
    }

    /** A hall whose tape holds the bytes 1, 2, .., size. */
    static PatronHall fed(PatronHall hall, int size) {
        for (int i = 1; i <= size; i++) {
            hall.feed(i, 1);
        }
        return hall;
    }

    static int asked(PatronHall hall, int client, int kind) {
        return fed(hall, kind == COUNT ? 2 : 1).ask(client, kind, 1, 0);
    }

    /** The client's session is the place, its serial 1, its request number 2, and it is idle. */
    static PatronHall withSession(PatronHall hall, int client, int place) {
        asked(hall, client, PUT);
        hall.reply(client, 1, 0, place);
        hall.reply(client, 2, 0, place + 1);
        return hall;
    }
}
