import java.util.Random;
import java.util.function.IntSupplier;

/** Runs of 512 random calls, each compared with the plain model; the seeds are fixed, so the runs are always the same. */
public final class RandomRunsTest {
    private static final Check check = new Check();
    private static final int[] ODD = {
        Integer.MIN_VALUE, -2, -1, 0, 1, 5, 6, 7, 8, 9, 32, 33, 63, 64, 65, 100, 101, 1000, 1001, Integer.MAX_VALUE};

    private final Random random;
    private final PatronHall hall = new PatronHall();
    private final PlainModel model = new PlainModel();
    /** In some runs time goes fast, so that clients give up; in others replies are many. */
    private final int tickWeight;
    private final int oddOneIn;
    private int calls = 0;

    private RandomRunsTest(long seed) {
        random = new Random(seed);
        tickWeight = 1 + random.nextInt(12);
        oddOneIn = 10 + random.nextInt(40);
    }

    public static void main(String[] args) {
        for (int seed = 0; seed < 500; seed++) {
            if (!new RandomRunsTest(seed).runsAsDue()) {
                check.say("in the run of seed " + seed);
                break;
            }
        }
        check.end();
    }

    private boolean runsAsDue() {
        boolean same = true;
        while (same && calls < 400) {
            same = change();
        }
        while (same && calls < 512) {
            same = look();
        }
        return same && wholeStateIsSame();
    }

    private boolean change() {
        int client = odd(random.nextInt(8));
        int roll = random.nextInt(30 + tickWeight);
        if (roll < 10) {
            return askSomething(client);
        }
        if (roll < 24) {
            return replySomething(client);
        }
        if (roll < 25) {
            return same("giveUp(" + client + ")", () -> bit(hall.giveUp(client)), () -> bit(model.giveUp(client)));
        }
        if (roll < 30) {
            return look();
        }
        int n = odd(random.nextInt(3) == 0 ? 1 + random.nextInt(1000) : 1 + random.nextInt(30));
        return same("tick(" + n + ")", () -> hall.tick(n), () -> model.tick(n));
    }

    private boolean askSomething(int client) {
        int kind = odd(random.nextInt(6));
        int k = odd(1 + random.nextInt(random.nextInt(4) == 0 ? 32 : 3));
        int v = odd(kind == 1 ? random.nextInt(4) : 0);
        int others = kind < 2 ? random.nextInt(5) : kind == 4 ? 1 + random.nextInt(4) : 0;
        int size = Math.max(0, Math.min(40, k)) + Math.max(0, Math.min(110, v)) + others;
        return feedSome(size) && same("ask(" + client + ", " + kind + ", " + k + ", " + v + ")",
                () -> hall.ask(client, kind, k, v), () -> model.ask(client, kind, k, v));
    }

    private boolean replySomething(int client) {
        int known = client < 0 || client > 7 ? 0 : model.client(client, 4);
        int number = random.nextInt(8) == 0 ? odd(known - 1 + random.nextInt(3)) : known;
        int code = odd(random.nextInt(3) == 0 ? 1 : random.nextInt(4));
        int value = odd(code == 0 ? 1 + random.nextInt(1000000) : code == 1 ? random.nextInt(8) - 1 : 0);
        int size = code != 0 ? 0 : random.nextInt(20) == 0 ? 120 + random.nextInt(20) : random.nextInt(6);
        return feedSome(size) && same("reply(" + client + ", " + number + ", " + code + ", " + value + ")",
                () -> bit(hall.reply(client, number, code, value)), () -> bit(model.reply(client, number, code, value)));
    }

    private boolean feedSome(int size) {
        boolean same = true;
        int left = random.nextInt(40) == 0 ? random.nextInt(260) : size;
        while (same && left > 0) {
            int n = Math.min(left, 8);
            same = feedOnce(n);
            left -= n;
        }
        return same && (random.nextInt(oddOneIn) != 0 || feedOnce(odd(n8())));
    }

    private boolean feedOnce(int n) {
        long eight = random.nextLong();
        return same("feed(" + eight + ", " + n + ")", () -> hall.feed(eight, n), () -> model.feed(eight, n));
    }

    private int n8() {
        return 1 + random.nextInt(8);
    }

    private boolean look() {
        int a = odd(random.nextInt(8));
        int b = odd(random.nextInt(9));
        switch (random.nextInt(7)) {
            case 0: return same("client(" + a + ", " + b + ")", () -> hall.client(a, b), () -> model.client(a, b));
            case 1: return same("request(" + a + ", " + b + ")", () -> hall.request(a, b), () -> model.request(a, b));
            case 2: return same("dataAt(" + a + ", " + b + ")", () -> hall.dataAt(a, b), () -> model.dataAt(a, b));
            case 3: return same("answer(" + a + ")", () -> hall.answer(a), () -> model.answer(a));
            case 4: return same("answerAt(" + a + ", " + b + ")", () -> hall.answerAt(a, b), () -> model.answerAt(a, b));
            case 5: return same("history(" + a + ", " + b + ")", () -> hall.history(a, b), () -> model.history(a, b));
            default: return same("count(" + b + ")", () -> hall.count(b), () -> model.count(b));
        }
    }

    /** Looking changes nothing, so these calls may come behind the 512th. */
    private boolean wholeStateIsSame() {
        boolean same = true;
        for (int i = -1; i <= 66; i++) {
            for (int what = -1; what <= 9; what++) {
                int a = i;
                int b = what;
                same &= same("client", () -> hall.client(a, b), () -> model.client(a, b));
                same &= same("request", () -> hall.request(a, b), () -> model.request(a, b));
                same &= same("history", () -> hall.history(a, b), () -> model.history(a, b));
                same &= same("dataAt", () -> hall.dataAt(b, a), () -> model.dataAt(b, a));
                same &= same("answerAt", () -> hall.answerAt(b, a), () -> model.answerAt(b, a));
                same &= same("count", () -> hall.count(b), () -> model.count(b));
            }
        }
        return same;
    }

    private boolean same(String call, IntSupplier real, IntSupplier due) {
        calls++;
        String got = Picture.outcome(real);
        String want = Picture.outcome(due);
        if (!got.equals(want)) {
            check.say("call " + calls + ": " + call + " answered " + got + ", due is " + want);
        }
        return got.equals(want);
    }

    private int odd(int ordinary) {
        return random.nextInt(oddOneIn) == 0 ? ODD[random.nextInt(ODD.length)] : ordinary;
    }

    private static int bit(boolean yes) {
        return yes ? 1 : 0;
    }
}
