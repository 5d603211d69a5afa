import java.lang.reflect.InvocationTargetException;
import java.lang.reflect.Method;
import java.nio.file.Files;
import java.nio.file.Path;
import java.util.regex.Matcher;
import java.util.regex.Pattern;

/** Plays the example of README.md: each call must answer what its comment begins with. */
public final class ReadmeTests {
    private static final Pattern TEXT = Pattern.compile("for \\(char c : \"(.*)\"\\.toCharArray\\(\\)\\) \\{");
    private static final Pattern CALL = Pattern.compile("g\\.(\\w+)\\(([-\\d, ]*)\\);(?:\\s*// (.*))?");
    private static final Pattern DUE = Pattern.compile("(-?\\d+|throws \\w+)\\b.*");
    private static final int LEAST_CALLS = 20;

    private static int played = 0;
    private static int wrong = 0;

    public static void main(String[] args) throws Exception {
        String[] parts = Files.readString(Path.of("README.md")).split("```java\n|```\n");
        GradeTexts g = new GradeTexts();
        for (String line : parts[1].split("\n")) {
            play(g, line);
        }
        if (played < LEAST_CALLS) {
            wrong++;
            System.out.println("only " + played + " calls of the example were found");
        }
        System.out.println(wrong == 0 ? "all answers are as due" : wrong + " answers are not as due");
        if (wrong != 0) {
            System.exit(1);
        }
    }

    private static void play(GradeTexts g, String line) throws Exception {
        Matcher text = TEXT.matcher(line);
        if (text.matches()) {
            for (char c : text.group(1).toCharArray()) {
                g.unit(c);
            }
        }
        Matcher call = CALL.matcher(line);
        if (!call.matches()) {
            return;
        }
        played++;
        String got = answer(g, call.group(1), call.group(2));
        Matcher due = DUE.matcher(call.group(3) == null ? "" : call.group(3));
        // what answers nothing has no answer in its comment
        String want = due.matches() ? due.group(1) : "null";
        if (!got.equals(want)) {
            wrong++;
            System.out.println(line + " answered " + got);
        }
    }

    private static String answer(GradeTexts g, String name, String numbers) throws Exception {
        String[] given = numbers.isEmpty() ? new String[0] : numbers.split(", ");
        for (Method method : GradeTexts.class.getMethods()) {
            if (!method.getName().equals(name)) {
                continue;
            }
            Object[] args = new Object[given.length];
            for (int i = 0; i < given.length; i++) {
                boolean isLong = method.getParameterTypes()[i] == long.class;
                args[i] = isLong ? (Object) Long.valueOf(given[i]) : (Object) Integer.valueOf(given[i]);
            }
            try {
                return String.valueOf(method.invoke(g, args));
            } catch (InvocationTargetException e) {
                return "throws " + e.getCause().getClass().getSimpleName();
            }
        }
        return "no such call";
    }
}
