import java.lang.reflect.Constructor;
import java.lang.reflect.Field;
import java.lang.reflect.Method;
import java.lang.reflect.Modifier;
import java.util.ArrayList;
import java.util.Collections;
import java.util.List;

/** The face of the class: what the document lists, and no other member that can be seen from outside. */
public final class FaceTest {
    private static final Expect EXPECT = new Expect();
    private static final String INDEX = "java.lang.IndexOutOfBoundsException";
    private static final String ARGUMENT = "java.lang.IllegalArgumentException";
    private static final String STATE = "java.lang.IllegalStateException";
    private static final String ARITHMETIC = "java.lang.ArithmeticException";
    private static final String NO_SUCH = "java.util.NoSuchElementException";

    public static void main(String[] args) throws Exception {
        List<String> due = new ArrayList<>(List.of(
            "int number(int) " + ARGUMENT + " " + STATE,
            "int cell(int) " + INDEX + " " + STATE,
            "int sign(int) " + ARGUMENT + " " + STATE,
            "int wipe()",
            "int fault()",
            "int set(int) " + INDEX + " " + ARGUMENT + " " + STATE,
            "int put(int,int) " + INDEX + " " + ARGUMENT,
            "int clear(int) " + INDEX,
            "int open() " + STATE,
            "int drop() " + STATE,
            "int keep() " + STATE,
            "int layers()",
            "int drafted()",
            "long value(int) " + INDEX + " " + ARITHMETIC,
            "long valueAnew(int) " + INDEX + " " + ARITHMETIC,
            "int signs(int) " + INDEX,
            "int level(int) " + INDEX,
            "boolean depends(int,int) " + INDEX,
            "int faulty()",
            "int foundAnew()",
            "int seek(int,int,int,int,int) " + INDEX + " " + ARGUMENT + " " + STATE + " " + NO_SUCH,
            "public constructor()",
            "int NONE"));
        List<String> got = face();
        Collections.sort(due);
        Collections.sort(got);
        EXPECT.same("the face", got.toString(), due.toString());
        EXPECT.same("NONE", GoalseekOffice.NONE, -1);
        EXPECT.same("the class's modifiers", Modifier.toString(GoalseekOffice.class.getModifiers()), "public final");
        EXPECT.end();
    }

    private static List<String> face() {
        List<String> face = new ArrayList<>();
        for (Method method : GoalseekOffice.class.getDeclaredMethods()) {
            if (!Modifier.isPrivate(method.getModifiers())) {
                face.add(line(method));
            }
        }
        for (Constructor<?> constructor : GoalseekOffice.class.getDeclaredConstructors()) {
            String modifiers = Modifier.toString(constructor.getModifiers());
            face.add(modifiers + " constructor(" + names(constructor.getParameterTypes(), ",") + ")");
        }
        for (Field field : GoalseekOffice.class.getDeclaredFields()) {
            if (!Modifier.isPrivate(field.getModifiers())) {
                face.add(field.getType().getName() + " " + field.getName());
            }
        }
        return face;
    }

    private static String line(Method method) {
        String line = method.getReturnType().getName() + " " + method.getName()
            + "(" + names(method.getParameterTypes(), ",") + ")";
        return (line + " " + names(method.getExceptionTypes(), " ")).trim();
    }

    private static String names(Class<?>[] classes, String between) {
        StringBuilder text = new StringBuilder();
        for (Class<?> one : classes) {
            text.append(text.length() == 0 ? "" : between).append(one.getName());
        }
        return text.toString();
    }
}
