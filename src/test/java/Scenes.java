/** The scenes that several tests start from. */
final class Scenes {
    private Scenes() { }

    static final Scene NEW = hall -> { };

    /**
     * Every client in another state: 0 is idle, in a session, and its command was DONE; 1 requests OPEN; 2 waits in a
     * session; 3 heard that nobody leads; 4 heard that the server is busy; 5 was told UNCLEAR; 6 was told GIVEN UP of a
     * read, in a session; 7 was never asked.
     */
    static final Scene BUSY = hall -> {
        Check.withSession(hall, 0, 70);
        Check.asked(hall, 0, Check.REMOVE);
        Check.fed(hall, 3).reply(0, 3, 0, 75);
        hall.tick(2);
        Check.asked(hall, 1, Check.PUT);
        Check.withSession(hall, 2, 80);
        Check.fed(hall, 6).ask(2, Check.SWAP, 2, 1);
        Check.asked(hall, 3, Check.GET);
        hall.reply(3, 1, 1, 6);
        hall.reply(3, 1, 1, Check.NONE);
        Check.asked(hall, 4, Check.NEXT);
        hall.reply(4, 1, 3, 0);
        Check.withSession(hall, 5, 90);
        Check.asked(hall, 5, Check.REMOVE);
        hall.reply(5, 3, 2, 0);
        Check.withSession(hall, 6, 95);
        Check.asked(hall, 6, Check.COUNT);
        hall.giveUp(6);
        hall.tick(1);
    };

    static final Scene BUSY_WITH_TAPE = BUSY.then(hall -> Check.fed(hall, 3));

    static Scene fedWith(int size) {
        return hall -> Check.fed(hall, size);
    }

    static Scene asked(int client, int kind) {
        return hall -> Check.asked(hall, client, kind);
    }

    /** The client waits with a read or a command, or, without a session, with OPEN. */
    static Scene waiting(int client, int kind, boolean inSession) {
        return hall -> {
            if (inSession) {
                Check.withSession(hall, client, 500);
            }
            Check.asked(hall, client, kind);
        };
    }

    /** The client's request goes again, to the same server, until its tries are so many. */
    static Scene triesUpTo(int client, int tries) {
        return hall -> {
            for (int i = hall.client(client, 5); i < tries; i++) {
                hall.reply(client, hall.client(client, 4), 1, hall.client(client, 1));
            }
        };
    }
}
