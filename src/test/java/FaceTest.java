import java.lang.reflect.Constructor;
import java.lang.reflect.Field;
import java.lang.reflect.Method;
import java.lang.reflect.Modifier;
import java.util.ArrayList;
import java.util.Arrays;
import java.util.Collections;
import java.util.List;

/** The public face is the document's, and nothing else of the class is seen from outside. */
public final class FaceTest {
    private static final String INDEX = "IndexOutOfBoundsException";
    private static final String ARGUMENT = "IllegalArgumentException";
    private static final String STATE = "IllegalStateException";

    private static final String[] METHODS = {
        "void build(int,int) " + INDEX + " " + ARGUMENT + " " + STATE,
        "int people(int,int) " + INDEX + " " + ARGUMENT + " " + STATE,
        "int wind(int) " + ARGUMENT,
        "void fire(int,int) " + INDEX + " " + ARGUMENT + " " + STATE,
        "boolean feed(int,boolean) " + INDEX,
        "int failFan(int,boolean) " + INDEX,
        "boolean failDoor(int,boolean) " + INDEX,
        "void failDetector(int,int,boolean) " + INDEX,
        "int act(int,int,boolean) " + ARGUMENT + " " + STATE,
        "int command(int,int) " + INDEX + " " + ARGUMENT,
        "int step(int) " + ARGUMENT,
        "int segment(int,int) " + INDEX + " " + ARGUMENT,
        "int flow()",
        "int fan(int) " + INDEX,
        "int alarm()",
        "int done(int) " + INDEX,
        "int person(int,int) " + INDEX + " " + ARGUMENT,
        "int count(int) " + ARGUMENT,
        "int gone()",
        "boolean balances()",
    };

    private static final String[] CONSTANTS = {
        "NONE -1", "STOP 0", "TELL 1", "DOORS 2", "LEFT 3", "RIGHT 4", "OFF 5", "DAMPER 6", "FOAM 7",
        "SITS 0", "READY 1", "WALKS 2", "OUT 3", "HURT 4",
    };

    public static void main(String[] args) throws IllegalAccessException {
        same("methods", METHODS, methods());
        same("constants", CONSTANTS, constants());
        same("constructors", new String[] {"public 0"}, constructors());
        Check.due("the class is public and final",
                TubeWatch.class.getModifiers() == (Modifier.PUBLIC | Modifier.FINAL), true);
        noPrivateMethodBearsAPublicName();
        Check.end();
    }

    private static void same(String what, String[] due, List<String> got) {
        List<String> wanted = new ArrayList<>(Arrays.asList(due));
        Collections.sort(wanted);
        Collections.sort(got);
        Check.due(what + " " + got, got.equals(wanted), true);
    }

    private static List<String> methods() {
        List<String> found = new ArrayList<>();
        for (Method method : TubeWatch.class.getDeclaredMethods()) {
            if (!Modifier.isPrivate(method.getModifiers()) && !method.isSynthetic()) {
                found.add(described(method));
            }
        }
        return found;
    }

    private static String described(Method method) {
        StringBuilder text = new StringBuilder();
        text.append(method.getReturnType().getSimpleName()).append(' ').append(method.getName()).append('(');
        String comma = "";
        for (Class<?> type : method.getParameterTypes()) {
            text.append(comma).append(type.getSimpleName());
            comma = ",";
        }
        text.append(')');
        for (Class<?> type : method.getExceptionTypes()) {
            text.append(' ').append(type.getSimpleName());
        }
        return text.toString();
    }

    private static List<String> constants() throws IllegalAccessException {
        List<String> found = new ArrayList<>();
        for (Field field : TubeWatch.class.getDeclaredFields()) {
            if (!Modifier.isPrivate(field.getModifiers())) {
                found.add(field.getName() + " " + field.getInt(null));
            }
        }
        return found;
    }

    private static List<String> constructors() {
        List<String> found = new ArrayList<>();
        for (Constructor<?> constructor : TubeWatch.class.getDeclaredConstructors()) {
            found.add(Modifier.toString(constructor.getModifiers()) + " " + constructor.getParameterCount());
        }
        return found;
    }

    private static void noPrivateMethodBearsAPublicName() {
        List<String> names = new ArrayList<>();
        for (Method method : TubeWatch.class.getDeclaredMethods()) {
            if (Modifier.isPublic(method.getModifiers())) {
                names.add(method.getName());
            }
        }
        for (Class<?> inner : TubeWatch.class.getDeclaredClasses()) {
            Check.due(inner + " is not public", Modifier.isPublic(inner.getModifiers()), false);
            for (Method method : inner.getDeclaredMethods()) {
                Check.due(inner + "." + method.getName(), names.contains(method.getName()), false);
            }
        }
        for (Method method : TubeWatch.class.getDeclaredMethods()) {
            if (Modifier.isPrivate(method.getModifiers())) {
                Check.due(method.getName(), names.contains(method.getName()), false);
            }
        }
    }
}
