import java.io.DataInputStream;
import java.io.IOException;
import java.io.InputStream;
import java.nio.file.Files;
import java.nio.file.Path;
import java.util.List;
import java.util.Set;
import java.util.TreeSet;

/** What the compiled class asks of the library is what ../shared/LANGUAGE.md lists; objects are made with the first one alone. */
final class LibraryTest {
    private static final Set<String> LISTED = Set.of(
        "java/lang/Object.<init>", "java/lang/Integer.bitCount", "java/lang/Math.max", "java/lang/Math.min",
        "java/lang/System.arraycopy");

    /** The constants of one compiled class, as far as they tell which members it uses. */
    private static final class Constants {
        private final String[] texts;
        private final int[] firsts;
        private final int[] seconds;
        private final boolean[] members;

        Constants(DataInputStream in) throws IOException {
            in.skipNBytes(8);
            int count = in.readUnsignedShort();
            texts = new String[count];
            firsts = new int[count];
            seconds = new int[count];
            members = new boolean[count];
            int i = 1;
            while (i < count) {
                i += read(in, i);
            }
        }

        /** How many places the constant takes. */
        private int read(DataInputStream in, int i) throws IOException {
            int tag = in.readUnsignedByte();
            switch (tag) {
                case 1:
                    texts[i] = in.readUTF();
                    return 1;
                case 5: case 6:
                    in.skipNBytes(8);
                    return 2;
                case 7: case 8: case 16: case 19: case 20:
                    firsts[i] = in.readUnsignedShort();
                    return 1;
                case 15:
                    in.skipNBytes(3);
                    return 1;
                default:
                    members[i] = tag >= 9 && tag <= 11;
                    firsts[i] = in.readUnsignedShort();
                    seconds[i] = in.readUnsignedShort();
                    return 1;
            }
        }

        Set<String> usedMembers() {
            Set<String> used = new TreeSet<>();
            for (int i = 0; i < members.length; i++) {
                if (members[i]) {
                    used.add(texts[firsts[firsts[i]]] + "." + texts[firsts[seconds[i]]]);
                }
            }
            return used;
        }
    }

    public static void main(String[] args) throws IOException {
        uses(FogTailors.class);
        for (Class<?> inside : FogTailors.class.getDeclaredClasses()) {
            uses(inside);
        }
        makes(Files.readAllLines(Path.of("src/main/java/FogTailors.java")));
        Check.end("LibraryTest");
    }

    private static void uses(Class<?> each) throws IOException {
        try (InputStream file = each.getResourceAsStream(each.getName() + ".class")) {
            for (String member : new Constants(new DataInputStream(file)).usedMembers()) {
                boolean own = member.startsWith("FogTailors.") || member.startsWith("FogTailors$");
                Check.due(each.getName() + " uses " + member, own || LISTED.contains(member) ? 1 : 0, 1);
            }
        }
    }

    /** All calls of a run share one room: no call makes an object, only a field's beginning or a constructor does. */
    private static void makes(List<String> lines) {
        boolean inConstructor = false;
        for (int i = 0; i < lines.size(); i++) {
            String line = lines.get(i).replaceAll("(//|/\\*\\*|^ +\\* ).*", "");
            if (line.matches("( {4}| {8})[a-zA-Z].*\\) \\{") && !line.matches(" +(for|if|while|switch) .*")) {
                inConstructor = line.matches(" +(public )?[A-Z]\\w*\\(.*\\) \\{");
            }
            if (line.contains("new ")) {
                boolean inField = line.matches("( {4}| {8})(private |static |final |[A-Z]).* = new .*;");
                Check.due("line " + (i + 1) + " makes an object in a field or a constructor", inField || inConstructor ? 1 : 0, 1);
            }
        }
    }
}
