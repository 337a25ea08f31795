import java.lang.reflect.InvocationTargetException;
import java.lang.reflect.Method;
import java.nio.file.Files;
import java.nio.file.Path;
import java.util.Set;
import java.util.TreeSet;
import java.util.regex.Matcher;
import java.util.regex.Pattern;

/** Does the calls that README.md shows, and compares each answer with the one that stands behind it. */
public final class ReadmeTests extends Checks {
    static final Pattern CALL = Pattern.compile("rows\\.(\\w+)\\((.*)\\); +// (-?\\d+|\\w+Exception): .+");
    static final Pattern TEXT = Pattern.compile("for \\(char c : \"(.*)\"\\.toCharArray\\(\\)\\) \\{ rows\\.append\\(c\\); \\}");

    static final Set<String> shown = new TreeSet<>();

    public static void main(String[] args) throws Exception {
        promise = "README.md";
        SwitchRows rows = new SwitchRows();
        boolean isCode = false;
        for (String line : Files.readAllLines(Path.of("README.md"))) {
            if (line.startsWith("```")) {
                isCode = line.equals("```java");
            } else if (isCode && line.equals("SwitchRows rows = new SwitchRows();")) {
                rows = new SwitchRows();
            } else if (isCode) {
                doLine(rows, line);
            }
        }
        for (Method method : SwitchRows.class.getDeclaredMethods()) {
            boolean isOfTheFace = java.lang.reflect.Modifier.isPublic(method.getModifiers());
            dueText("it shows " + method.getName(), "" + isOfTheFace, "" + shown.contains(method.getName()));
        }
        end();
    }

    static void doLine(SwitchRows rows, String line) throws Exception {
        Matcher text = TEXT.matcher(line);
        Matcher call = CALL.matcher(line);
        if (text.matches()) {
            shown.add("append");
            for (char c : text.group(1).toCharArray()) {
                rows.append(c);
            }
        } else if (call.matches()) {
            shown.add(call.group(1));
            dueText(line, call.group(3), answerOf(rows, call.group(1), call.group(2)));
        } else {
            dueText("a line of the example", "a call with its answer", line);
        }
    }

    static String answerOf(SwitchRows rows, String name, String arguments) throws Exception {
        String[] words = arguments.isEmpty() ? new String[0] : arguments.split(", ");
        for (Method method : SwitchRows.class.getMethods()) {
            if (method.getName().equals(name) && method.getParameterCount() == words.length) {
                try {
                    return "" + method.invoke(rows, valuesOf(method.getParameterTypes(), words));
                } catch (InvocationTargetException e) {
                    return e.getCause().getClass().getSimpleName();
                }
            }
        }
        return "no such method";
    }

    static Object[] valuesOf(Class<?>[] types, String[] words) {
        Object[] values = new Object[words.length];
        for (int i = 0; i < words.length; i++) {
            if (types[i] == boolean.class) {
                values[i] = words[i].equals("true");
            } else if (types[i] == long.class) {
                values[i] = Long.valueOf(words[i].replace("L", ""));
            } else {
                values[i] = Integer.valueOf(words[i]);
            }
        }
        return values;
    }
}
