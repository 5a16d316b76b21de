import java.lang.reflect.Constructor;
import java.lang.reflect.Field;
import java.lang.reflect.Method;
import java.lang.reflect.Modifier;
import java.util.Arrays;
import java.util.TreeSet;

/** The face of the document and nothing else, and the constants. */
public final class FaceTest {
    private static final String[] FACE = {
        "boolean feed(int) throws IllegalArgumentException",
        "int errors()",
        "int queued()",
        "int pending()",
        "int tick(int) throws IllegalArgumentException",
        "int cut()",
        "int refill(int) throws IndexOutOfBoundsException",
        "int pour(int,int) throws IndexOutOfBoundsException,IllegalArgumentException",
        "int at()",
        "boolean isDown()",
        "int pen()",
        "int ink(int) throws IndexOutOfBoundsException",
        "boolean isWaiting()",
        "int timeLeft()",
        "int stepsUp()",
        "int stepsDown()",
        "boolean isMarked(int,int) throws IndexOutOfBoundsException",
        "int marks()",
        "int marksInTheEnd()",
    };

    public static void main(String[] args) {
        constants();
        theClass();
        methods();
        fields();
        Check.end();
    }

    private static void constants() {
        Check.due("MOVE", PlotKernel.MOVE, 1);
        Check.due("DRAW", PlotKernel.DRAW, 2);
        Check.due("PEN", PlotKernel.PEN, 3);
        Check.due("REPEAT", PlotKernel.REPEAT, 4);
    }

    private static void theClass() {
        int modifiers = PlotKernel.class.getModifiers();
        Check.yes("the class is public and final", Modifier.isPublic(modifiers) && Modifier.isFinal(modifiers));
        Constructor<?>[] constructors = PlotKernel.class.getDeclaredConstructors();
        Check.due("constructors", constructors.length, 1);
        Check.yes("it is public", Modifier.isPublic(constructors[0].getModifiers()));
        Check.due("its parameters", constructors[0].getParameterCount(), 0);
        for (Class<?> inner : PlotKernel.class.getDeclaredClasses()) {
            Check.no(inner + " is hidden", Modifier.isPublic(inner.getModifiers()) || Modifier.isProtected(inner.getModifiers()));
            Check.yes(inner + " is static", Modifier.isStatic(inner.getModifiers()));
        }
    }

    private static void methods() {
        TreeSet<String> seen = new TreeSet<>();
        TreeSet<String> publicNames = new TreeSet<>();
        TreeSet<String> privateNames = new TreeSet<>();
        for (Method method : PlotKernel.class.getDeclaredMethods()) {
            if (Modifier.isPrivate(method.getModifiers())) {
                privateNames.add(method.getName());
            } else {
                seen.add(lineOf(method));
                publicNames.add(method.getName());
                Check.yes(method + " is public", Modifier.isPublic(method.getModifiers()));
                Check.no(method + " is static", Modifier.isStatic(method.getModifiers()));
            }
        }
        TreeSet<String> due = new TreeSet<>(Arrays.asList(FACE));
        Check.yes("the methods " + seen + " are " + due, seen.equals(due));
        privateNames.retainAll(publicNames);
        Check.yes("no private method bears a public one's name: " + privateNames, privateNames.isEmpty());
    }

    private static String lineOf(Method method) {
        String line = method.getReturnType() + " " + method.getName() + "(" + names(method.getParameterTypes()) + ")";
        return method.getExceptionTypes().length == 0 ? line : line + " throws " + names(method.getExceptionTypes());
    }

    private static String names(Class<?>[] types) {
        StringBuilder text = new StringBuilder();
        for (Class<?> type : types) {
            text.append(text.length() == 0 ? "" : ",").append(type.getSimpleName());
        }
        return text.toString();
    }

    private static void fields() {
        TreeSet<String> seen = new TreeSet<>();
        for (Field field : PlotKernel.class.getDeclaredFields()) {
            if (!Modifier.isPrivate(field.getModifiers())) {
                seen.add(field.getName());
            }
            Check.yes(field + " is no static state", !Modifier.isStatic(field.getModifiers()) || Modifier.isFinal(field.getModifiers()));
        }
        Check.yes("the open fields " + seen, seen.equals(new TreeSet<>(Arrays.asList("MOVE", "DRAW", "PEN", "REPEAT"))));
    }
}
