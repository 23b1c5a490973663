import java.lang.reflect.Constructor;
import java.lang.reflect.Field;
import java.lang.reflect.Method;
import java.lang.reflect.Modifier;
import java.util.Arrays;
import java.util.Set;
import java.util.TreeSet;

/** The face of the class: its constants, constructor and methods, and nothing else that shows. */
public final class FaceTest {
    private static final Check check = new Check();
    private static final String[] FACE = {
        "int append(int,int,int,int,int)", "int load(int) IllegalArgumentException", "int errorOffset()",
        "int roleCount()", "int ruleCount()", "int colour(int,int) IndexOutOfBoundsException",
        "boolean isFixed(int) IndexOutOfBoundsException", "int luminance(int,int) IndexOutOfBoundsException",
        "int contrast(int,int,int) IndexOutOfBoundsException",
        "int seen(int,int,int) IndexOutOfBoundsException IllegalArgumentException",
        "int difference(int,int,int,int) IndexOutOfBoundsException IllegalArgumentException",
        "int nearest(int,int) IndexOutOfBoundsException IllegalArgumentException",
        "int need(int,int) IndexOutOfBoundsException", "int value(int,int) IndexOutOfBoundsException",
        "int violations()", "int violation(int) NoSuchElementException",
        "int smallestMargin(int) IndexOutOfBoundsException", "int bestShift(int,int) IndexOutOfBoundsException",
        "int shiftRole(int,int) IndexOutOfBoundsException",
        "int setColour(int,int,int) IndexOutOfBoundsException IllegalArgumentException",
        "boolean setFixed(int,boolean) IndexOutOfBoundsException",
        "int shift(int,int,int) IndexOutOfBoundsException IllegalArgumentException IllegalStateException",
        "int repair(int) IllegalArgumentException", "int swapSchemes()", "int undo()", "long checksum()"
    };

    public static void main(String[] args) {
        check.same("SYNTAX_ERROR", -2, ColorScheme.SYNTAX_ERROR);
        check.same("OUT_OF_RANGE", -3, ColorScheme.OUT_OF_RANGE);
        check.same("TOO_MANY", -4, ColorScheme.TOO_MANY);
        check.same("TOO_DEEP", -5, ColorScheme.TOO_DEEP);
        check.same("public and final", true, Modifier.isPublic(ColorScheme.class.getModifiers())
            && Modifier.isFinal(ColorScheme.class.getModifiers()));
        methods();
        others();
        check.end("FaceTest");
    }

    private static void methods() {
        Set<String> names = new TreeSet<>();
        Set<String> shown = new TreeSet<>();
        for (Method method : ColorScheme.class.getDeclaredMethods()) {
            if (Modifier.isPublic(method.getModifiers())) {
                shown.add(face(method));
                names.add(method.getName());
            }
        }
        for (Method method : ColorScheme.class.getDeclaredMethods()) {
            if (!Modifier.isPublic(method.getModifiers())) {
                check.same(method + " is private", true, Modifier.isPrivate(method.getModifiers()));
                check.same(method + " has a name of its own", false, names.contains(method.getName()));
            }
        }
        check.same("the methods", new TreeSet<>(Arrays.asList(FACE)), shown);
    }

    private static String face(Method method) {
        StringBuilder text = new StringBuilder(method.getReturnType() + " " + method.getName() + "(");
        String comma = "";
        for (Class<?> type : method.getParameterTypes()) {
            text.append(comma).append(type);
            comma = ",";
        }
        text.append(")");
        for (Class<?> type : method.getExceptionTypes()) {
            text.append(" ").append(type.getSimpleName());
        }
        return text.toString();
    }

    private static void others() {
        Set<String> fields = new TreeSet<>();
        for (Field field : ColorScheme.class.getDeclaredFields()) {
            if (!Modifier.isPrivate(field.getModifiers())) {
                fields.add(Modifier.toString(field.getModifiers()) + " " + field.getType() + " " + field.getName());
            }
            check.same(field + " is final if static", true,
                !Modifier.isStatic(field.getModifiers()) || Modifier.isFinal(field.getModifiers()));
        }
        check.same("the constants alone", new TreeSet<>(Arrays.asList("public static final int SYNTAX_ERROR",
            "public static final int OUT_OF_RANGE", "public static final int TOO_MANY", "public static final int TOO_DEEP")),
            fields);
        Constructor<?>[] constructors = ColorScheme.class.getDeclaredConstructors();
        check.same("one constructor", 1, constructors.length);
        check.same("it is public", true, Modifier.isPublic(constructors[0].getModifiers()));
        for (Class<?> inside : ColorScheme.class.getDeclaredClasses()) {
            check.same(inside + " is static", true, Modifier.isStatic(inside.getModifiers()));
            check.same(inside + " is not public", false, Modifier.isPublic(inside.getModifiers())
                || Modifier.isProtected(inside.getModifiers()));
        }
    }
}
