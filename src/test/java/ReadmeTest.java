import java.io.IOException;
import java.lang.reflect.InvocationTargetException;
import java.lang.reflect.Method;
import java.lang.reflect.Modifier;
import java.nio.file.Files;
import java.nio.file.Path;
import java.util.Set;
import java.util.TreeSet;
import java.util.regex.Matcher;
import java.util.regex.Pattern;

/** Plays the examples of README.md, which must be in the working directory: each call answers what stands behind it. */
public final class ReadmeTest {
    private static final Check check = new Check();
    private static final String NEW = "PatronHall hall = new PatronHall();";
    /** A call, and behind it its answer, or what it throws. */
    private static final Pattern CALL = Pattern.compile("hall\\.(\\w+)\\((.*)\\); +// ((?:throws )?[-\\w]+)(?::.*)?");

    public static void main(String[] args) throws IOException, IllegalAccessException {
        Set<String> played = new TreeSet<>();
        PatronHall hall = null;
        boolean inExample = false;
        for (String line : Files.readAllLines(Path.of("README.md"))) {
            if (line.startsWith("```")) {
                inExample = line.equals("```java");
            } else if (inExample && line.equals(NEW)) {
                hall = new PatronHall();
            } else if (inExample) {
                played.add(play(hall, line));
            }
        }
        for (String name : faceNames()) {
            check.due("an example has " + name, played.contains(name), true);
        }
        check.end();
    }

    private static String play(PatronHall hall, String line) throws IllegalAccessException {
        Matcher call = CALL.matcher(line);
        if (hall == null || !call.matches()) {
            check.say("this is no call with its answer: " + line);
            return "";
        }
        String got = outcome(hall, methodOf(call.group(1)), call.group(2).split(", "));
        if (!got.equals(call.group(3))) {
            check.say(line + " .. but it answered " + got);
        }
        return call.group(1);
    }

    private static String outcome(PatronHall hall, Method method, String[] texts) throws IllegalAccessException {
        Object[] values = new Object[texts.length];
        for (int i = 0; i < texts.length; i++) {
            values[i] = valueOf(texts[i], method.getParameterTypes()[i]);
        }
        try {
            return String.valueOf(method.invoke(hall, values));
        } catch (InvocationTargetException e) {
            return "throws " + e.getCause().getClass().getSimpleName();
        }
    }

    private static Object valueOf(String text, Class<?> type) {
        if (text.equals("PatronHall.NONE")) {
            return PatronHall.NONE;
        }
        if (type == long.class) {
            return Long.decode(text.replace("L", ""));
        }
        return Integer.decode(text);
    }

    private static Method methodOf(String name) {
        for (Method method : PatronHall.class.getDeclaredMethods()) {
            if (Modifier.isPublic(method.getModifiers()) && method.getName().equals(name)) {
                return method;
            }
        }
        throw new IllegalArgumentException("README.md calls " + name + ", which is not in the face");
    }

    private static Set<String> faceNames() {
        Set<String> names = new TreeSet<>();
        for (Method method : PatronHall.class.getDeclaredMethods()) {
            if (Modifier.isPublic(method.getModifiers())) {
                names.add(method.getName());
            }
        }
        return names;
    }
}
