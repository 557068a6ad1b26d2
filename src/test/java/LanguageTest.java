import java.io.IOException;
import java.lang.reflect.Field;
import java.lang.reflect.Method;
import java.lang.reflect.Modifier;
import java.nio.file.Files;
import java.nio.file.Path;
import java.util.ArrayList;
import java.util.List;
import java.util.Set;
import java.util.TreeSet;
import java.util.regex.Matcher;
import java.util.regex.Pattern;

/** The face of the document, and those rules of ../shared/LANGUAGE.md that can be seen without a run. */
final class LanguageTest {
    private static final Set<String> FACE = Set.of(
        "int type(int)", "int clear()", "int marsh()", "int ofDawn(int,int)", "int client(int,int)", "int has(int,int)",
        "int now(int)", "int cuts(int,int)", "int sews(int)", "int dawn()", "int undo()", "int round(int,int)",
        "int can(int,int)", "int plan(int,int)", "int ways(int,int)", "int suns(int,int,int)", "int found(int,int)",
        "int forget()", "int from()", "int look()", "int rate(int,int)", "int keep(int)", "int back(int)", "int count(int)",
        "long trace()");
    private static final Set<String> CONSTANTS = Set.of("BAD", "STATE", "FULL", "NONE", "NO");
    private static final String FORBIDDEN =
        "\\b(throw|throws|try|catch|synchronized|assert|import|protected|volatile|native|Exact|Object|HashMap|System\\.(?!arraycopy))\\b|->|::";

    private static int right;
    private static int wrong;

    public static void main(String[] args) throws IOException {
        face();
        constants();
        inner();
        source(Files.readAllLines(Path.of("src/main/java/FogTailors.java")));
        System.out.println("LanguageTest: " + right + " rules kept, " + wrong + " not");
        if (wrong > 0) {
            System.exit(1);
        }
    }

    private static void rule(String what, boolean kept) {
        if (kept) {
            right++;
        } else {
            wrong++;
            System.out.println("broken: " + what);
        }
    }

    private static String signature(Method m) {
        StringBuilder b = new StringBuilder(m.getReturnType() + " " + m.getName() + "(");
        for (Class<?> type : m.getParameterTypes()) {
            b.append(b.charAt(b.length() - 1) == '(' ? "" : ",").append(type);
        }
        return b.append(')').toString();
    }

    private static void face() {
        Set<String> open = new TreeSet<>();
        for (Method m : FogTailors.class.getDeclaredMethods()) {
            if (!Modifier.isPrivate(m.getModifiers())) {
                open.add(signature(m));
                rule(m + " is public and of the object", Modifier.isPublic(m.getModifiers()) && !Modifier.isStatic(m.getModifiers()));
            }
        }
        rule("the face: " + open, open.equals(new TreeSet<>(FACE)));
        int mods = FogTailors.class.getModifiers();
        rule("public final class", Modifier.isPublic(mods) && Modifier.isFinal(mods));
        rule("one public constructor", FogTailors.class.getDeclaredConstructors().length == 1
            && FogTailors.class.getConstructors().length == 1);
    }

    private static void constants() {
        Set<String> open = new TreeSet<>();
        for (Field f : FogTailors.class.getDeclaredFields()) {
            if (!Modifier.isPrivate(f.getModifiers())) {
                open.add(f.getName());
                rule(f + " is a constant", Modifier.isStatic(f.getModifiers()) && Modifier.isFinal(f.getModifiers()));
            }
        }
        rule("the constants: " + open, open.equals(new TreeSet<>(CONSTANTS)));
    }

    private static void inner() {
        Set<String> names = new TreeSet<>();
        for (String s : FACE) {
            names.add(s.substring(s.indexOf(' ') + 1, s.indexOf('(')));
        }
        List<Class<?>> classes = new ArrayList<>(List.of(FogTailors.class.getDeclaredClasses()));
        rule("some twelve classes", classes.size() < 12);
        for (Class<?> inside : classes) {
            rule(inside + " is static", Modifier.isStatic(inside.getModifiers()));
            rule(inside + " is not open", !Modifier.isPublic(inside.getModifiers()));
            for (Method m : inside.getDeclaredMethods()) {
                rule(m + " bears no name of the face", !names.contains(m.getName()));
            }
        }
        classes.add(FogTailors.class);
        for (Class<?> each : classes) {
            fields(each);
            for (Method m : each.getDeclaredMethods()) {
                rule(m + " takes at most seven", m.getParameterCount() <= 7);
                rule(m + " has a name of its own", !Modifier.isPrivate(m.getModifiers()) || !names.contains(m.getName()));
            }
        }
    }

    private static void fields(Class<?> each) {
        int own = 0;
        for (Field f : each.getDeclaredFields()) {
            boolean isStatic = Modifier.isStatic(f.getModifiers());
            own += isStatic ? 0 : 1;
            rule(f + " is no static state", !isStatic || Modifier.isFinal(f.getModifiers()));
        }
        rule(each + " has some twenty fields", own <= 20);
    }

    private static void source(List<String> lines) {
        Pattern forbidden = Pattern.compile(FORBIDDEN);
        int began = 0;
        for (int i = 0; i < lines.size(); i++) {
            String line = lines.get(i);
            Matcher m = forbidden.matcher(line.replaceAll("(//|/\\*\\*).*", ""));
            rule("line " + (i + 1) + ": " + line.trim(), !m.find());
            rule("line " + (i + 1) + " has signs of 1 to 127", line.chars().allMatch(c -> c >= 1 && c <= 127));
            if (line.matches(" {4,8}\\w.*\\) \\{")) {
                began = i;
            }
            if (line.matches(" {4,8}\\}")) {
                rule("short methods, line " + (i + 1), line.startsWith("        ") || i - began <= 60 || began == 0
                    || isClassEnd(lines, i));
            }
        }
    }

    private static boolean isClassEnd(List<String> lines, int end) {
        for (int i = end - 1; i >= 0; i--) {
            if (lines.get(i).matches(" {4}\\w.*\\{")) {
                return lines.get(i).contains(" class ");
            }
        }
        return false;
    }
}
