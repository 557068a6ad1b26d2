import java.io.IOException;
import java.lang.reflect.Method;
import java.nio.file.DirectoryStream;
import java.nio.file.Files;
import java.nio.file.Path;
import java.util.regex.Matcher;
import java.util.regex.Pattern;

/** README.md: its example's answers are those of the program; it names each call, each constant and each test. */
final class ReadmeTest {
    private static final Pattern TEXT = Pattern.compile("\"([^\"]*)\"\\.toCharArray");
    private static final Pattern CALL = Pattern.compile("^x\\.(\\w+)\\(([-0-9, ]*)\\); +// (-?\\d+)\\b");

    public static void main(String[] args) throws IOException, ReflectiveOperationException {
        String readme = Files.readString(Path.of("README.md"));
        example(readme);
        for (Method m : FogTailors.class.getDeclaredMethods()) {
            if (java.lang.reflect.Modifier.isPublic(m.getModifiers())) {
                names(readme, "`" + m.getName() + "(");
            }
        }
        for (String constant : new String[] {"BAD", "STATE", "FULL", "NONE", "NO"}) {
            names(readme, "`" + constant + "`");
        }
        try (DirectoryStream<Path> tests = Files.newDirectoryStream(Path.of("src/test/java"), "*Test.java")) {
            for (Path test : tests) {
                names(readme, "`" + test.getFileName().toString().replace(".java", "") + "`");
            }
        }
        Check.end("ReadmeTest");
    }

    private static void names(String readme, String what) {
        Check.due("README.md names " + what, readme.contains(what) ? 1 : 0, 1);
    }

    private static void example(String readme) throws ReflectiveOperationException {
        FogTailors x = new FogTailors();
        int calls = 0;
        for (String line : readme.split("\n")) {
            Matcher text = TEXT.matcher(line);
            if (text.find()) {
                Check.type(x, text.group(1));
            }
            Matcher call = CALL.matcher(line);
            if (call.find()) {
                Check.due("README.md's " + line, answer(x, call.group(1), call.group(2)), Long.parseLong(call.group(3)));
                calls++;
            }
        }
        Check.due("README.md's example has calls", calls > 9 ? 1 : 0, 1);
    }

    private static long answer(FogTailors x, String name, String numbers) throws ReflectiveOperationException {
        String[] parts = numbers.isEmpty() ? new String[0] : numbers.split(", ");
        Class<?>[] types = new Class<?>[parts.length];
        Object[] values = new Object[parts.length];
        for (int i = 0; i < parts.length; i++) {
            types[i] = int.class;
            values[i] = Integer.valueOf(parts[i]);
        }
        return ((Number) FogTailors.class.getMethod(name, types).invoke(x, values)).longValue();
    }
}
