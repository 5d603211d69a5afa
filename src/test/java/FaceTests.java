import java.lang.reflect.Constructor;
import java.lang.reflect.Field;
import java.lang.reflect.Method;
import java.lang.reflect.Modifier;
import java.util.Arrays;
import java.util.Set;
import java.util.TreeSet;

/** The class shows the document's face and nothing else. */
public final class FaceTests {
    private static int wrong = 0;

    public static void main(String[] args) {
        Set<String> shown = new TreeSet<>();
        Set<String> names = new TreeSet<>();
        for (Field field : GradeTexts.class.getDeclaredFields()) {
            if (!Modifier.isPrivate(field.getModifiers())) {
                shown.add(Modifier.toString(field.getModifiers()) + " " + field.getType().getSimpleName() + " " + field.getName());
            }
        }
        for (Constructor<?> constructor : GradeTexts.class.getDeclaredConstructors()) {
            if (!Modifier.isPrivate(constructor.getModifiers())) {
                shown.add(Modifier.toString(constructor.getModifiers()) + " GradeTexts" + types(constructor.getParameterTypes()));
            }
        }
        for (Method method : GradeTexts.class.getDeclaredMethods()) {
            if (!Modifier.isPrivate(method.getModifiers())) {
                shown.add(line(method));
                names.add(method.getName());
            }
        }
        Set<String> due = new TreeSet<>(Arrays.asList(
            "public static final int NONE", "public static final int DIVISION", "public static final int FACE",
            "public GradeTexts()",
            "public boolean unit(int)", "public int read()",
            "public int write(int) IllegalStateException IllegalArgumentException",
            "public int edition(long) IllegalStateException IllegalArgumentException",
            "public void board(int, int, int) IllegalArgumentException",
            "public int fault(int, int, int, int, int, int) ArrayIndexOutOfBoundsException IllegalStateException IllegalArgumentException",
            "public void clearFaults()", "public int face(int) ArrayIndexOutOfBoundsException",
            "public int run(long) IllegalStateException", "public int walk(long) IllegalStateException",
            "public int why(int, int) IllegalStateException IllegalArgumentException",
            "public int open(int, int) ArrayIndexOutOfBoundsException IllegalArgumentException",
            "public long worst(int, int, int) IllegalArgumentException",
            "public int raise(int, int) IllegalStateException IllegalArgumentException",
            "public int appeal(int, int, int, int)", "public long counted(int) IllegalArgumentException",
            "public int machine(int, int) IllegalArgumentException"));
        due("the face", shown, due);
        due("a final class", Modifier.toString(GradeTexts.class.getModifiers()), "public final");
        for (Class<?> inside : GradeTexts.class.getDeclaredClasses()) {
            for (Method method : inside.getDeclaredMethods()) {
                due(inside.getSimpleName() + "." + method.getName() + " bears a name of the face", names.contains(method.getName()), false);
            }
        }
        System.out.println(wrong == 0 ? "all answers are as due" : wrong + " answers are not as due");
        if (wrong != 0) {
            System.exit(1);
        }
    }

    private static String line(Method method) {
        StringBuilder made = new StringBuilder();
        made.append(Modifier.toString(method.getModifiers())).append(' ').append(method.getReturnType().getSimpleName());
        made.append(' ').append(method.getName()).append(types(method.getParameterTypes()));
        for (Class<?> thrown : method.getExceptionTypes()) {
            made.append(' ').append(thrown.getSimpleName());
        }
        return made.toString();
    }

    private static String types(Class<?>[] types) {
        String[] names = new String[types.length];
        for (int i = 0; i < types.length; i++) {
            names[i] = types[i].getSimpleName();
        }
        return "(" + String.join(", ", names) + ")";
    }

    private static void due(String what, Object got, Object want) {
        if (!got.equals(want)) {
            wrong++;
            System.out.println(what + ": is " + got + ", due is " + want);
        }
    }
}
