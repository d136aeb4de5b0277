import java.lang.reflect.Constructor;
import java.lang.reflect.Executable;
import java.lang.reflect.Field;
import java.lang.reflect.Method;
import java.lang.reflect.Modifier;
import java.util.Arrays;
import java.util.Set;
import java.util.TreeSet;
import java.util.stream.Collectors;

/** The public face: all that the document has, with its exceptions, and no more. */
public final class FaceTest {
    private static final Check check = new Check();

    private static final Set<String> DUE = Set.of(
            "NONE int -1",
            "PatronHall() throws ",
            "int feed(long,int) throws IllegalArgumentException,IllegalStateException",
            "int ask(int,int,int,int) throws IndexOutOfBoundsException,IllegalArgumentException,IllegalStateException",
            "boolean giveUp(int) throws IndexOutOfBoundsException",
            "boolean reply(int,int,int,int) throws IndexOutOfBoundsException,IllegalArgumentException",
            "int tick(int) throws IllegalArgumentException",
            "int client(int,int) throws IndexOutOfBoundsException",
            "int request(int,int) throws ",
            "int dataAt(int,int) throws IndexOutOfBoundsException",
            "int answer(int) throws IndexOutOfBoundsException",
            "int answerAt(int,int) throws IndexOutOfBoundsException",
            "int history(int,int) throws IndexOutOfBoundsException",
            "int count(int) throws ");

    public static void main(String[] args) throws IllegalAccessException {
        Set<String> found = new TreeSet<>();
        for (Field field : PatronHall.class.getDeclaredFields()) {
            if (isVisible(field.getModifiers())) {
                found.add(field.getName() + " " + field.getType() + " " + field.get(null));
            }
        }
        for (Constructor<?> made : PatronHall.class.getDeclaredConstructors()) {
            found.add("PatronHall" + tail(made));
        }
        for (Method method : PatronHall.class.getDeclaredMethods()) {
            if (isVisible(method.getModifiers())) {
                found.add(method.getReturnType() + " " + method.getName() + tail(method));
            }
        }
        if (!found.equals(DUE)) {
            check.say("the face is " + found + ", due is " + new TreeSet<>(DUE));
        }
        int modifiers = PatronHall.class.getModifiers();
        check.due("public and final", Modifier.isPublic(modifiers) && Modifier.isFinal(modifiers), true);
        check.end();
    }

    private static boolean isVisible(int modifiers) {
        return !Modifier.isPrivate(modifiers);
    }

    private static String tail(Executable of) {
        return "(" + names(of.getParameterTypes()) + ") throws " + names(of.getExceptionTypes());
    }

    private static String names(Class<?>[] types) {
        return Arrays.stream(types).map(Class::getSimpleName).collect(Collectors.joining(","));
    }
}
