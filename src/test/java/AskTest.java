/** Promise 3. */
public final class AskTest {
    private static final Check check = new Check();
    private static final int[] KEYS_ALONE = {Check.REMOVE, Check.GET, Check.NEXT};

    public static void main(String[] args) {
        kindsAre0To5();
        keysAre1To32Bytes();
        othersOfPutAreTheValue();
        vBytesAreTheExpectedValue();
        othersOfSwapAreTheNewValue();
        longestAndShortestSwap();
        keyIsTheWholeTape();
        othersOfCountAreTheSecondKey();
        vIs0ButForSwap();
        farOffNumbers();
        howManyWereAskedBefore();
        noSuchClient();
        whenItWaits();
        askedAgainWhenTold();
        when1024WereAsked();
        orderOfTheFaults();
        check.end();
    }

    private static String call(int kind, int k, int v, int size) {
        return "ask(.., " + kind + ", " + k + ", " + v + ") with " + size + " bytes";
    }

    /** By one who was never asked and by one with a session, an asking of its own, and an answer. */
    private static void taken(int kind, int k, int v, int size) {
        for (int client : new int[] {7, 0}) {
            PatronHall hall = Scenes.BUSY.hall();
            int[] before = {hall.count(1), hall.count(2), hall.count(3), hall.count(4), hall.client(client, 4)};
            Check.fed(hall, size);
            check.due(call(kind, k, v, size), hall.ask(client, kind, k, v), before[0]);
            check.dueCounts(hall, 3, before[0] + 1, before[1] + 1, before[2] + 1, before[3] + 1, 0);
            check.due("it waits", hall.client(client, 0), 1);
            check.due("its request number", hall.client(client, 4), before[4] + 1);
            check.dueHistory(hall, before[0], client, kind, before[1], Check.NONE, 0, Check.NONE);
            check.due("the last byte", hall.dataAt(client, size - 1), size);
            check.dueNoIndex("no more bytes", () -> hall.dataAt(client, size));
            boolean opens = client == 7 && Check.isCommand(kind);
            check.due("the request's kind", hall.request(0, 3), opens ? Check.OPEN : kind);
            check.due("the request's bytes", hall.request(0, 6), opens ? 0 : size);
        }
    }

    private static void refused(int kind, int k, int v, int size) {
        for (int client : new int[] {7, 0}) {
            Scene asking = Scenes.fedWith(size).then(hall -> hall.ask(client, kind, k, v));
            check.refusedForArgument(call(kind, k, v, size), Scenes.BUSY, asking);
        }
    }

    /** "kinds 0 PUT .., 5 NEXT". */
    private static void kindsAre0To5() {
        for (int kind = 0; kind <= 5; kind++) {
            taken(kind, 1, 0, kind == Check.COUNT ? 2 : 1);
        }
        for (int kind : new int[] {-1, 6, 7, Integer.MIN_VALUE, Integer.MAX_VALUE}) {
            refused(kind, 1, 0, 1);
            refused(kind, 1, 0, 2);
        }
    }

    /** "keys of 1 to 32 bytes", for every kind. */
    private static void keysAre1To32Bytes() {
        for (int kind = Check.PUT; kind <= Check.NEXT; kind++) {
            int more = kind == Check.COUNT ? 1 : 0;
            taken(kind, 1, 0, 1 + more);
            taken(kind, 2, 0, 2 + more);
            taken(kind, 31, 0, 31 + more);
            taken(kind, 32, 0, 32 + more);
            refused(kind, 0, 0, more);
            refused(kind, 0, 0, 1);
            refused(kind, -1, 0, 1);
            refused(kind, 33, 0, 33 + more);
            refused(kind, 34, 0, 34 + more);
        }
    }

    /** "0 PUT (k bytes are the key, the others the value)", and "values of 0 to 100". */
    private static void othersOfPutAreTheValue() {
        for (int k : new int[] {1, 32}) {
            refused(Check.PUT, k, 0, k - 1);
            taken(Check.PUT, k, 0, k);
            taken(Check.PUT, k, 0, k + 1);
            taken(Check.PUT, k, 0, k + 99);
            taken(Check.PUT, k, 0, k + 100);
            refused(Check.PUT, k, 0, k + 101);
            refused(Check.PUT, k, 0, 240);
        }
    }

    /** "1 SWAP (k bytes the key, then v bytes the expected value": 0 to 100 too. */
    private static void vBytesAreTheExpectedValue() {
        for (int others : new int[] {0, 1, 100}) {
            refused(Check.SWAP, 2, -1, 2 + others);
            taken(Check.SWAP, 2, 0, 2 + others);
            taken(Check.SWAP, 2, 1, 3 + others);
            taken(Check.SWAP, 2, 99, 101 + others);
            taken(Check.SWAP, 2, 100, 102 + others);
            refused(Check.SWAP, 2, 101, 103 + others);
        }
    }

    /** ".. the others the new one)": 0 to 100, and none are missing. */
    private static void othersOfSwapAreTheNewValue() {
        for (int v : new int[] {0, 1, 100}) {
            refused(Check.SWAP, 2, v, 1 + v);
            taken(Check.SWAP, 2, v, 2 + v);
            taken(Check.SWAP, 2, v, 3 + v);
            taken(Check.SWAP, 2, v, 101 + v);
            taken(Check.SWAP, 2, v, 102 + v);
            refused(Check.SWAP, 2, v, 103 + v);
        }
        refused(Check.SWAP, 2, 1, 0);
        refused(Check.SWAP, 2, 1, 1);
    }

    private static void longestAndShortestSwap() {
        taken(Check.SWAP, 1, 0, 1);
        taken(Check.SWAP, 32, 100, 232);
        refused(Check.SWAP, 32, 100, 233);
        refused(Check.SWAP, 32, 100, 240);
        refused(Check.SWAP, 33, 100, 233);
        refused(Check.SWAP, 32, 101, 233);
    }

    /** "2 REMOVE, 3 GET (the key), .. 5 NEXT (the key)": no byte less and none more. */
    private static void keyIsTheWholeTape() {
        for (int kind : KEYS_ALONE) {
            for (int k : new int[] {1, 5, 32}) {
                refused(kind, k, 0, k - 1);
                taken(kind, k, 0, k);
                refused(kind, k, 0, k + 1);
            }
            refused(kind, 1, 0, 240);
        }
    }

    /** "4 COUNT (k bytes the first key, the others the second)": 1 to 32 as well. */
    private static void othersOfCountAreTheSecondKey() {
        for (int k : new int[] {1, 32}) {
            refused(Check.COUNT, k, 0, k - 1);
            refused(Check.COUNT, k, 0, k);
            taken(Check.COUNT, k, 0, k + 1);
            taken(Check.COUNT, k, 0, k + 2);
            taken(Check.COUNT, k, 0, k + 31);
            taken(Check.COUNT, k, 0, k + 32);
            refused(Check.COUNT, k, 0, k + 33);
        }
    }

    /** "v is 0 but for SWAP", even where the tape would have the bytes. */
    private static void vIs0ButForSwap() {
        for (int kind : new int[] {Check.PUT, Check.REMOVE, Check.GET, Check.COUNT, Check.NEXT}) {
            int size = kind == Check.COUNT ? 4 : 2;
            taken(kind, 2, 0, size);
            for (int v : new int[] {1, -1, 100}) {
                refused(kind, 2, v, size);
                refused(kind, 2, v, size + v);
            }
        }
        taken(Check.SWAP, 2, 1, 3);
    }

    /** Their sums and differences go round, but nothing is taken by that. */
    private static void farOffNumbers() {
        int[] far = {Integer.MIN_VALUE, Integer.MIN_VALUE + 1, Integer.MAX_VALUE};
        for (int kind = Check.PUT; kind <= Check.NEXT; kind++) {
            for (int one : far) {
                refused(kind, one, 0, 1);
                refused(kind, 1, one, 1);
                for (int other : far) {
                    refused(kind, one, other, 1);
                }
            }
        }
    }

    /** "How many were asked before": by all clients, and the refused ones do not count. */
    private static void howManyWereAskedBefore() {
        PatronHall hall = new PatronHall();
        check.due("the first", Check.asked(hall, 7, Check.GET), 0);
        check.dueNoState("it waits", () -> Check.asked(hall, 7, Check.GET));
        check.dueNoArgument("no such kind", () -> hall.ask(0, 6, 1, 0));
        check.dueNoIndex("no such client", () -> hall.ask(8, 3, 1, 0));
        check.due("the second", Check.asked(hall, 0, Check.PUT), 1);
        hall.giveUp(0);
        check.due("the third", Check.asked(hall, 0, Check.GET), 2);
        check.due("askings", hall.count(1), 3);
    }

    /** "IndexOutOfBoundsException, when there is no such client". */
    private static void noSuchClient() {
        for (int client : new int[] {0, 7}) {
            check.due("ask of client " + client, Check.asked(new PatronHall(), client, Check.GET), 0);
        }
        for (int client : Check.NO_CLIENTS) {
            for (Scene before : new Scene[] {Scenes.NEW, Scenes.BUSY}) {
                Scene asking = Scenes.fedWith(1).then(hall -> hall.ask(client, Check.GET, 1, 0));
                check.refusedForIndex("ask of client " + client, before, asking);
            }
        }
    }

    /** "IllegalStateException, when it waits": for OPEN, in a session, patient or not. */
    private static void whenItWaits() {
        for (int client = 1; client <= 4; client++) {
            for (int kind = Check.PUT; kind <= Check.NEXT; kind++) {
                Scene asking = Scenes.asked(client, kind);
                check.refusedForState("ask of client " + client + " who waits", Scenes.BUSY, asking);
            }
        }
    }

    /** Whatever it was told, it is idle then and can be asked. */
    private static void askedAgainWhenTold() {
        for (int client : new int[] {0, 5, 6}) {
            PatronHall hall = Scenes.BUSY.hall();
            int askings = hall.count(1);
            check.due("ask of client " + client, Check.asked(hall, client, Check.GET), askings);
        }
        for (Scene telling : new Scene[] {h -> h.giveUp(2), h -> h.reply(2, 3, 0, 9), h -> h.reply(2, 3, 2, 0)}) {
            PatronHall hall = Scenes.BUSY.hall();
            int askings = hall.count(1);
            check.dueNoState("it waits", () -> Check.asked(hall, 2, Check.GET));
            telling.play(hall);
            check.due("ask of client 2", Check.asked(hall, 2, Check.GET), askings);
        }
    }

    /**
     * "or 1024 were asked". No run of 512 calls asks so much, and behind its 512th call an object is free to answer as
     * it likes; this one keeps the limit still.
     */
    private static void when1024WereAsked() {
        PatronHall hall = new PatronHall();
        for (int i = 0; i < 1024; i++) {
            check.due("ask " + i, Check.asked(hall, i % 8, Check.GET), i);
            hall.giveUp(i % 8);
        }
        for (int client = 0; client < 8; client++) {
            int c = client;
            check.dueNoState("the 1025th", () -> Check.asked(hall, c, Check.GET));
        }
        check.dueNoArgument("no such kind", () -> hall.ask(0, 6, 1, 0));
        check.dueCounts(hall, 0, 1024, 2048, 1024, 0, 0);
        check.dueHistory(hall, 1023, 7, Check.GET, 2046, 2047, 3, Check.NONE);
        check.dueNoIndex("history(1024, 0)", () -> hall.history(1024, 0));
    }

    /** As the document names them: the client, then what is asked, then whether it waits. */
    private static void orderOfTheFaults() {
        check.refusedForIndex("no client, no kind", Scenes.BUSY, hall -> hall.ask(8, 6, 0, 5));
        check.refusedForIndex("no client, no key", Scenes.BUSY, hall -> hall.ask(-1, Check.GET, 1, 0));
        check.refusedForArgument("waits, no kind", Scenes.BUSY, hall -> hall.ask(1, 6, 1, 0));
        check.refusedForArgument("waits, no key", Scenes.BUSY, hall -> hall.ask(2, Check.GET, 1, 0));
    }
}
