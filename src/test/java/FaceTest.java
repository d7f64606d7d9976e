import java.lang.reflect.Constructor;
import java.lang.reflect.Field;
import java.lang.reflect.Method;
import java.lang.reflect.Modifier;
import java.util.Arrays;
import java.util.Set;
import java.util.TreeSet;

/** The class has the document's face and nothing else that can be seen from outside. */
public final class FaceTest {
    private static final String[] FACE = {
        "int cut(int) IllegalArgumentException",
        "int digit(int)",
        "int move(int) IllegalArgumentException",
        "int put(int, int) IllegalArgumentException",
        "int real(long, boolean) ArithmeticException",
        "int round(int) IllegalArgumentException",
        "int shift(int) IllegalArgumentException",
        "int shortest(long, boolean) ArithmeticException",
        "int told(int) IllegalArgumentException",
        "int whole(long)",
        "long digest()",
        "long nearest(boolean)"
    };

    private int wrong = 0;

    public static void main(String[] args) {
        FaceTest test = new FaceTest();
        test.due("the class", Modifier.toString(ExactDigits.class.getModifiers()), "public final");
        test.methods();
        test.constructors();
        test.fields();
        test.classesInside();
        System.out.println(test.wrong + " faults in the face");
        if (test.wrong != 0) {
            System.exit(1);
        }
    }

    private void due(String what, String got, String want) {
        if (!got.equals(want)) {
            wrong++;
            System.out.println(what + " is " + got + ", due is " + want);
        }
    }

    private void methods() {
        Set<String> seen = new TreeSet<>();
        for (Method method : ExactDigits.class.getDeclaredMethods()) {
            if (!Modifier.isPrivate(method.getModifiers())) {
                due(method.getName(), Modifier.toString(method.getModifiers()), "public");
                seen.add(method.getReturnType() + " " + method.getName()
                    + list("(", method.getParameterTypes(), ")") + list(" ", method.getExceptionTypes(), ""));
            } else {
                due("private " + method.getName() + " on the face", isOnFace(method.getName()) + "", "false");
            }
        }
        due("the methods", seen.toString(), Arrays.toString(FACE));
    }

    private static boolean isOnFace(String name) {
        for (String method : FACE) {
            if (method.contains(" " + name + "(")) {
                return true;
            }
        }
        return false;
    }

    private static String list(String before, Class<?>[] types, String after) {
        StringBuilder text = new StringBuilder();
        for (Class<?> type : types) {
            text.append(text.length() == 0 ? "" : ", ").append(type.getSimpleName());
        }
        return types.length == 0 && after.isEmpty() ? "" : before + text + after;
    }

    private void constructors() {
        Constructor<?>[] all = ExactDigits.class.getDeclaredConstructors();
        due("how many constructors", all.length + "", "1");
        due("the constructor", all[0].toString(), "public ExactDigits()");
    }

    private void fields() {
        for (Field field : ExactDigits.class.getDeclaredFields()) {
            due(field.getName() + " private", Modifier.isPrivate(field.getModifiers()) + "", "true");
        }
    }

    private void classesInside() {
        for (Class<?> inside : ExactDigits.class.getDeclaredClasses()) {
            int modifiers = inside.getModifiers();
            due(inside + " static", Modifier.isStatic(modifiers) + "", "true");
            due(inside + " open", (Modifier.isPublic(modifiers) || Modifier.isProtected(modifiers)) + "", "false");
        }
    }
}
