import java.io.IOException;
import java.lang.reflect.Field;
import java.lang.reflect.Method;
import java.lang.reflect.Modifier;
import java.nio.file.Files;
import java.nio.file.Path;
import java.util.Arrays;
import java.util.Set;
import java.util.TreeSet;

/** The public face of the document, and those rules of ../shared/LANGUAGE.md that words can tell. */
public final class FaceTest {
    private static final String[] METHODS = {
        "int room(int) IllegalArgumentException IllegalStateException",
        "int puzzle(int,int,int,int,int) IndexOutOfBoundsException IllegalArgumentException IllegalStateException",
        "int prop(int,boolean) IndexOutOfBoundsException",
        "int had(int,int) IndexOutOfBoundsException IllegalArgumentException",
        "boolean canBeLeft(int) IndexOutOfBoundsException",
        "int orders(int) IndexOutOfBoundsException",
        "int ordersAnew(int) IndexOutOfBoundsException",
        "int come(int) IndexOutOfBoundsException IllegalStateException",
        "int solve(int,int) IndexOutOfBoundsException IllegalStateException",
        "int hint(int) IndexOutOfBoundsException IllegalStateException",
        "void giveUp(int) IndexOutOfBoundsException IllegalStateException",
        "void reset(int,int,boolean) IndexOutOfBoundsException IllegalStateException",
        "int forget(int) IndexOutOfBoundsException IllegalStateException",
        "int book(int,int) IndexOutOfBoundsException IllegalArgumentException IllegalStateException",
        "void cancel(int) IndexOutOfBoundsException IllegalStateException",
        "int offer(int,int) IndexOutOfBoundsException IllegalArgumentException",
        "int pass(int) IllegalArgumentException IllegalStateException",
        "int minute()",
        "int state(int,int) IndexOutOfBoundsException IllegalArgumentException",
        "int group(int,int) IndexOutOfBoundsException IllegalArgumentException",
        "int crew(int,int) IndexOutOfBoundsException IllegalArgumentException",
        "int booking(int,int) IndexOutOfBoundsException IllegalArgumentException",
    };
    private static final String[] CONSTANTS = {
        "NONE=-1", "READY=0", "PLAYED=1", "DIRTY=2", "RESETTING=3", "PLAYS=0", "WON=1", "LOST=2", "FREED=3",
        "OPEN=0", "USED=1", "GONE=2",
    };
    private static final String[] FORBIDDEN = {
        "import ", "package ", "catch", "finally", "->", "::", "synchronized", "assert", "static {", "instanceof",
        "getMessage", "Exact(", "System.", "Thread", "while (true)", "for (;;)",
    };

    private FaceTest() {
    }

    public static void main(String[] args) throws IOException, IllegalAccessException {
        Due.holds("public and final", Modifier.isPublic(KeylessHall.class.getModifiers())
                && Modifier.isFinal(KeylessHall.class.getModifiers()));
        methods();
        constants();
        Due.is("constructors", 1, KeylessHall.class.getDeclaredConstructors().length);
        Due.holds("a public constructor", Modifier.isPublic(
                KeylessHall.class.getDeclaredConstructors()[0].getModifiers()));
        privateMethodsOfOtherNames();
        words();
        Due.end("FaceTest");
    }

    private static String told(Method method) {
        StringBuilder text = new StringBuilder();
        text.append(method.getReturnType().getSimpleName()).append(' ').append(method.getName()).append('(');
        for (int i = 0; i < method.getParameterCount(); i++) {
            text.append(i == 0 ? "" : ",").append(method.getParameterTypes()[i].getSimpleName());
        }
        text.append(')');
        for (Class<?> thrown : method.getExceptionTypes()) {
            text.append(' ').append(thrown.getSimpleName());
        }
        return text.toString();
    }

    private static void methods() {
        Set<String> found = new TreeSet<>();
        for (Method method : KeylessHall.class.getDeclaredMethods()) {
            if (!Modifier.isPrivate(method.getModifiers())) {
                found.add(told(method));
                Due.holds(method + " is public and no static one", Modifier.isPublic(method.getModifiers())
                        && !Modifier.isStatic(method.getModifiers()));
            }
        }
        Due.is("methods", new TreeSet<>(Arrays.asList(METHODS)).toString(), found.toString());
    }

    private static void constants() throws IllegalAccessException {
        Set<String> found = new TreeSet<>();
        for (Field field : KeylessHall.class.getDeclaredFields()) {
            int modifiers = field.getModifiers();
            if (!Modifier.isPrivate(modifiers)) {
                Due.holds(field + " is a constant", Modifier.isPublic(modifiers) && Modifier.isStatic(modifiers)
                        && Modifier.isFinal(modifiers));
                found.add(field.getName() + "=" + field.getInt(null));
            }
        }
        Due.is("constants", new TreeSet<>(Arrays.asList(CONSTANTS)).toString(), found.toString());
    }

    private static void privateMethodsOfOtherNames() {
        Set<String> face = new TreeSet<>();
        for (Method method : KeylessHall.class.getMethods()) {
            face.add(method.getName());
        }
        for (Method method : KeylessHall.class.getDeclaredMethods()) {
            if (Modifier.isPrivate(method.getModifiers())) {
                Due.holds(method.getName() + " is a name of its own", !face.contains(method.getName()));
            }
        }
        for (Class<?> inside : KeylessHall.class.getDeclaredClasses()) {
            Due.holds(inside + " is static and not public", Modifier.isStatic(inside.getModifiers())
                    && !Modifier.isPublic(inside.getModifiers()) && !Modifier.isProtected(inside.getModifiers()));
            for (Method method : inside.getDeclaredMethods()) {
                Due.holds(method.getName() + " is a name of its own", !face.contains(method.getName()));
            }
        }
    }

    private static void words() throws IOException {
        String program = Files.readString(Path.of("src/main/java/KeylessHall.java"));
        for (String word : FORBIDDEN) {
            Due.holds("the program is without " + word, !program.contains(word));
        }
    }
}
