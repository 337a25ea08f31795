import java.lang.reflect.Constructor;
import java.lang.reflect.Field;
import java.lang.reflect.Method;
import java.lang.reflect.Modifier;
import java.nio.file.Files;
import java.nio.file.Path;
import java.util.Arrays;
import java.util.TreeSet;

/** The document's face, and those rules of LANGUAGE.md that are easily told from the class and its text. */
public final class FaceTests {
    static final String[] FACE = {
        "int append(int)", "int clearText()", "int errorPosition()", "int load()", "int about(int)",
        "int call(int,int)", "int link(boolean,int,int)", "int at(boolean,int)", "int thanks(int,boolean)",
        "int connect(int,int)", "int join(int,int)", "int hang(int)", "int drop(int)", "int setBroken(int,boolean)",
        "int setPatience(int)", "int undo()", "int moves(int,int)", "int open(int)", "int fewest()", "int weakest()",
        "int runScript(int,long)", "int simulate(long,int)", "int save(int)", "int restore(int)"};
    static final String[] BANNED = {"->", "::", "finally", "synchronized", "assert", "import ", "Exact(", "@", "hashCode",
        "toString", "static {", "lambda", "System.currentTimeMillis", "System.nanoTime", "Object"};

    static int wrong = 0;

    static void need(boolean holds, String what) {
        if (!holds) {
            wrong++;
            System.out.println("it does not hold: " + what);
        }
    }

    public static void main(String[] args) throws Exception {
        face();
        inside();
        text();
        System.out.println(wrong == 0 ? "all holds" : wrong + " things do not hold");
        if (wrong != 0) {
            System.exit(1);
        }
    }

    static String shape(Method method) {
        StringBuilder shape = new StringBuilder(method.getReturnType() + " " + method.getName() + "(");
        for (Class<?> type : method.getParameterTypes()) {
            shape.append(shape.charAt(shape.length() - 1) == '(' ? "" : ",").append(type);
        }
        return shape + ")";
    }

    static void face() {
        Class<?> type = SwitchRows.class;
        need(Modifier.isPublic(type.getModifiers()) && Modifier.isFinal(type.getModifiers()), "public and final");
        TreeSet<String> open = new TreeSet<>();
        for (Method method : type.getDeclaredMethods()) {
            if (!Modifier.isPrivate(method.getModifiers()) && !method.isSynthetic()) {
                open.add(shape(method));
                need(Modifier.isPublic(method.getModifiers()) && !Modifier.isStatic(method.getModifiers()),
                    method.getName() + " is public");
            }
        }
        need(open.equals(new TreeSet<>(Arrays.asList(FACE))), "the methods of the face, and only those: " + open);
        for (Constructor<?> constructor : type.getDeclaredConstructors()) {
            need(Modifier.isPublic(constructor.getModifiers()) && constructor.getParameterCount() == 0,
                "one constructor, without arguments");
        }
        for (Field field : type.getDeclaredFields()) {
            need(Modifier.isPrivate(field.getModifiers()) || field.getName().equals("NONE"), field.getName() + " is private");
        }
        need(SwitchRows.NONE == -1, "NONE is -1");
    }

    static void inside() {
        TreeSet<String> names = new TreeSet<>();
        for (String shape : FACE) {
            names.add(shape.substring(4, shape.indexOf('(')));
        }
        Class<?>[] classes = SwitchRows.class.getDeclaredClasses();
        need(classes.length < 12, "at most some twelve classes");
        for (Class<?> type : classes) {
            need(Modifier.isStatic(type.getModifiers()) && !Modifier.isPublic(type.getModifiers()), type + " is static");
            for (Method method : type.getDeclaredMethods()) {
                need(!names.contains(method.getName()), method + " has a name of its own");
                need(method.getParameterCount() <= 7, method + " has at most seven parameters");
            }
            int fields = 0;
            for (Field field : type.getDeclaredFields()) {
                fields += Modifier.isStatic(field.getModifiers()) ? 0 : 1;
                need(!Modifier.isStatic(field.getModifiers()) || Modifier.isFinal(field.getModifiers()), field + " is final");
            }
            need(fields <= 20, type + " has at most twenty fields");
        }
        for (Method method : SwitchRows.class.getDeclaredMethods()) {
            need(!Modifier.isPrivate(method.getModifiers()) || !names.contains(method.getName()), method + " has its own name");
        }
    }

    static void text() throws Exception {
        String source = Files.readString(Path.of("src/main/java/SwitchRows.java"));
        for (int i = 0; i < source.length(); i++) {
            need(source.charAt(i) < 128, "the sign at " + i + " is plain");
        }
        for (String banned : BANNED) {
            need(!source.contains(banned), "the text is without " + banned);
        }
        String[] lines = source.split("\n");
        int start = -1;
        for (int i = 0; i < lines.length; i++) {
            String indent = lines[i].replaceAll("\\S.*", "");
            boolean opens = lines[i].endsWith("{") && lines[i].contains(")") && (indent.length() == 4
                || indent.length() == 8 && !lines[i].trim().matches("(if|for|while|switch|else|do|try)\\b.*"));
            if (opens) {
                start = i;
            }
            need(start < 0 || i - start <= 60 || lines[i].isEmpty() || indent.length() <= 4, "short methods, at line " + i);
        }
    }
}
