import java.util.Map;
import java.util.TreeMap;
import java.util.function.IntSupplier;

/**
 * All that the looking calls show behind a scene, again when time went on, and again when then every client that can be
 * asked was asked: so it tells too what no call shows at once, as the order in which alarms were made. Each row is
 * looked at on an object of its own, since an object is good for 512 calls only.
 */
final class Picture {
    private static final Scene LATER = hall -> hall.tick(70);
    private static final Scene ALL_ASKED = allAsked();

    private final Map<String, String> looks = new TreeMap<>();

    private Picture() { }

    static Map<String, String> of(Scene scene) {
        Picture picture = new Picture();
        picture.take("", scene);
        picture.take("later ", scene.then(LATER));
        picture.take("asked later ", scene.then(LATER).then(ALL_ASKED));
        return picture.looks;
    }

    private static Scene allAsked() {
        Scene scene = Scenes.NEW;
        for (int i = 0; i < 8; i++) {
            scene = scene.then(Scenes.asked(7 - i, Check.GET).attempted());
        }
        return scene;
    }

    private void take(String when, Scene scene) {
        PatronHall first = scene.hall();
        row(when + "count", 5, first::count);
        int askings = first.count(1);
        for (int client = 0; client < 8; client++) {
            int c = client;
            PatronHall hall = scene.hall();
            row(when + "client " + c, 8, what -> hall.client(c, what));
            row(when + "answer " + c, 0, i -> hall.answer(c));
            rowToItsEnd(when + "answerAt " + c, i -> hall.answerAt(c, i));
            PatronHall other = scene.hall();
            rowToItsEnd(when + "dataAt " + c, i -> other.dataAt(c, i));
        }
        for (int k = 0; k <= 64; k++) {
            int which = k;
            PatronHall hall = scene.hall();
            row(when + "request " + which, 7, what -> hall.request(which, what));
        }
        for (int i = 0; i <= askings; i++) {
            int which = i;
            PatronHall hall = scene.hall();
            row(when + "history " + which, 5, what -> hall.history(which, what));
        }
    }

    private interface Look {
        int at(int i);
    }

    private void row(String name, int last, Look look) {
        StringBuilder row = new StringBuilder();
        for (int i = 0; i <= last; i++) {
            int at = i;
            row.append(outcome(() -> look.at(at))).append(' ');
        }
        looks.put(name, row.toString());
    }

    /** No row of bytes is longer than the tape, so this one ends with what is thrown behind its last byte. */
    private void rowToItsEnd(String name, Look look) {
        StringBuilder row = new StringBuilder();
        String latest = "";
        for (int i = 0; i <= 240 && !latest.startsWith("throws"); i++) {
            int at = i;
            latest = outcome(() -> look.at(at));
            row.append(latest).append(' ');
        }
        looks.put(name, row.toString());
    }

    /** By the exception's own class, so that one of the machine's never equals one of the document's. */
    static String outcome(IntSupplier call) {
        try {
            return String.valueOf(call.getAsInt());
        } catch (RuntimeException e) {
            return "throws." + e.getClass().getSimpleName();
        }
    }
}
