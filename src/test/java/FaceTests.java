import java.lang.reflect.Constructor;
import java.lang.reflect.Field;
import java.lang.reflect.Method;
import java.lang.reflect.Modifier;
import java.nio.file.Files;
import java.nio.file.Path;
import java.util.Arrays;
import java.util.TreeSet;

/** The document's face, and those rules of LANGUAGE.md that are easily told from the class and its text. */
public final class FaceTests {
    static final String[] FACE = {
        "int append(int) IllegalArgument IllegalState",
        "int clearText()",
        "int errorPosition()",
        "int load() IllegalState",
        "int about(int) IllegalArgument",
        "int call(int,int) IndexOutOfBounds IllegalArgument",
        "int link(boolean,int,int) IndexOutOfBounds",
        "int at(boolean,int) IndexOutOfBounds",
        "int thanks(int,boolean) IndexOutOfBounds",
        "int connect(int,int) IndexOutOfBounds IllegalState",
        "int join(int,int) IndexOutOfBounds IllegalState",
        "int hang(int) IndexOutOfBounds",
        "int drop(int) IndexOutOfBounds IllegalState",
        "int setBroken(int,boolean) IndexOutOfBounds IllegalState",
        "int setPatience(int) IllegalArgument",
        "int undo() IllegalState",
        "int moves(int,int) IndexOutOfBounds",
        "int open(int) IllegalArgument",
        "int fewest()",
        "int weakest()",
        "int runScript(int,long) IllegalArgument",
        "int simulate(long,int) IllegalArgument",
        "int save(int) IndexOutOfBounds",
        "int restore(int) IndexOutOfBounds IllegalState"};
    static final String[] BANNED = {"->", "::", "finally", "catch", "try ", "synchronized", "assert",
        "import ", "Exact(", "@", "hashCode", "toString", "static {", "lambda", "System.currentTimeMillis",
        "System.nanoTime", "Object"};

    static int wrong = 0;

    static void need(boolean holds, String what) {
        if (!holds) {
            wrong++;
            System.out.println("it does not hold: " + what);
        }
    }

    public static void main(String[] args) throws Exception {
        face();
        inside();
        text();
        room();
        System.out.println(wrong == 0 ? "all holds" : wrong + " things do not hold");
        if (wrong != 0) {
            System.exit(1);
        }
    }

    static String shape(Method method) {
        StringBuilder shape = new StringBuilder(method.getReturnType() + " " + method.getName() + "(");
        for (Class<?> type : method.getParameterTypes()) {
            shape.append(shape.charAt(shape.length() - 1) == '(' ? "" : ",").append(type);
        }
        shape.append(')');
        for (Class<?> type : method.getExceptionTypes()) {
            shape.append(' ').append(type.getSimpleName().replace("Exception", ""));
        }
        return shape.toString();
    }

    static void face() {
        Class<?> type = SwitchRows.class;
        need(Modifier.isPublic(type.getModifiers()) && Modifier.isFinal(type.getModifiers()), "public and final");
        TreeSet<String> open = new TreeSet<>();
        for (Method method : type.getDeclaredMethods()) {
            if (!Modifier.isPrivate(method.getModifiers()) && !method.isSynthetic()) {
                open.add(shape(method));
                need(Modifier.isPublic(method.getModifiers()) && !Modifier.isStatic(method.getModifiers()),
                    method.getName() + " is public");
            }
        }
        need(open.equals(new TreeSet<>(Arrays.asList(FACE))), "the methods of the face, and only those: " + open);
        for (Constructor<?> constructor : type.getDeclaredConstructors()) {
            need(Modifier.isPublic(constructor.getModifiers()) && constructor.getParameterCount() == 0,
                "one constructor, without arguments");
        }
        for (Field field : type.getDeclaredFields()) {
            need(Modifier.isPrivate(field.getModifiers()) || field.getName().equals("NONE"), field.getName() + " is private");
            need(Modifier.isFinal(field.getModifiers()) || !Modifier.isStatic(field.getModifiers()), field + " is final");
        }
        need(SwitchRows.NONE == -1, "NONE is -1");
    }

    static void inside() {
        TreeSet<String> names = new TreeSet<>();
        for (String shape : FACE) {
            names.add(shape.substring(4, shape.indexOf('(')));
        }
        Class<?>[] classes = SwitchRows.class.getDeclaredClasses();
        need(classes.length < 12, "at most some twelve classes");
        for (Class<?> type : classes) {
            need(Modifier.isStatic(type.getModifiers()) && !Modifier.isPublic(type.getModifiers()), type + " is static");
            for (Method method : type.getDeclaredMethods()) {
                need(!names.contains(method.getName()), method + " has a name of its own");
                need(method.getParameterCount() <= 7, method + " has at most seven parameters");
            }
            int fields = 0;
            for (Field field : type.getDeclaredFields()) {
                fields += Modifier.isStatic(field.getModifiers()) ? 0 : 1;
                need(!Modifier.isStatic(field.getModifiers()) || Modifier.isFinal(field.getModifiers()), field + " is final");
            }
            need(fields <= 20, type + " has at most twenty fields");
        }
        for (Method method : SwitchRows.class.getDeclaredMethods()) {
            need(!Modifier.isPrivate(method.getModifiers()) || !names.contains(method.getName()), method + " has its own name");
        }
    }

    static void text() throws Exception {
        String source = Files.readString(Path.of("src/main/java/SwitchRows.java"));
        for (int i = 0; i < source.length(); i++) {
            need(source.charAt(i) < 128, "the sign at " + i + " is plain");
        }
        for (String banned : BANNED) {
            need(!source.contains(banned), "the text is without " + banned);
        }
        String[] lines = source.split("\n");
        int start = -1;
        for (int i = 0; i < lines.length; i++) {
            String indent = lines[i].replaceAll("\\S.*", "");
            boolean opens = lines[i].endsWith("{") && lines[i].contains(")") && (indent.length() == 4
                || indent.length() == 8 && !lines[i].trim().matches("(if|for|while|switch|else|do|try)\\b.*"));
            if (opens) {
                start = i;
            }
            need(start < 0 || i - start <= 60 || lines[i].isEmpty() || indent.length() <= 4, "short methods, at line " + i);
        }
    }

    /** All calls of a run share one room: objects are made in field initialisers and constructors, and as exceptions. */
    static void room() throws Exception {
        String[] lines = Files.readString(Path.of("src/main/java/SwitchRows.java")).split("\n");
        String opened = "";
        for (int i = 0; i < lines.length; i++) {
            String line = lines[i].trim();
            if (line.endsWith("{") && line.contains("(") && !line.matches("(\\} else )?(if|for|while|switch|else|do)\\b.*")) {
                opened = line;
            }
            boolean isField = line.matches("(private )?final \\S+ \\w+ = new .*;");
            boolean isInConstructor = opened.matches("(public )?[A-Z]\\w*\\(.*");
            need(!line.matches(".*\\bnew .*") || line.startsWith("throw new ") || isField || isInConstructor
                || line.startsWith("*") || line.startsWith("/"), "nothing is made at line " + (i + 1));
            need(!line.contains(".clone(") && !line.contains("Arrays."), "nothing is copied anew at line " + (i + 1));
        }
    }
}
