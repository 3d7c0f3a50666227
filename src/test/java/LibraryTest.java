import java.io.DataInputStream;
import java.io.IOException;
import java.io.InputStream;
import java.util.ArrayList;
import java.util.List;
import java.util.regex.Pattern;

/**
 * The class uses no method or field of the library but those that rules 4 and 6 of LANGUAGE.md
 * name. What it uses stands in its class file, in the table of constants.
 */
public final class LibraryTest {
    /** Written as owner.name and type, of what the rules name the part that has to do with numbers. */
    private static final Pattern ALLOWED = Pattern.compile(String.join("|",
            "WholeRegisters(\\$\\w+)?\\..*",
            "java/lang/Object\\.<init>\\(\\)V",
            "java/lang/(Integer|Long|Math)\\.(compare|max|min|abs|bitCount|floorDiv|floorMod)"
                    + "\\([IJ]+\\)[IJ]",
            "java/lang/System\\.arraycopy\\(.*",
            "java/util/Arrays\\.(fill|copyOf|copyOfRange)\\(\\[[IJSBCDF].*",
            "java/(lang/(IllegalState|IllegalArgument|IndexOutOfBounds|Arithmetic"
                    + "|UnsupportedOperation|Runtime)|util/NoSuchElement)Exception"
                    + "\\.<init>\\((Ljava/lang/String;)?\\)V"));

    private LibraryTest() {
    }

    public static void main(String[] args) throws IOException {
        List<String> used = new ArrayList<>(usedBy(WholeRegisters.class));
        for (Class<?> inside : WholeRegisters.class.getDeclaredClasses()) {
            used.addAll(usedBy(inside));
        }
        Check.same("the table of constants has been read",
                used.contains("java/lang/Object.<init>()V"), true);
        for (String member : used) {
            Check.same("LANGUAGE.md allows " + member, ALLOWED.matcher(member).matches(), true);
        }
        Check.same("LANGUAGE.md allows Long.divideUnsigned",
                ALLOWED.matcher("java/lang/Long.divideUnsigned(JJ)J").matches(), false);
        Check.end();
    }

    private static List<String> usedBy(Class<?> user) throws IOException {
        try (InputStream file = user.getResourceAsStream("/" + user.getName() + ".class");
                DataInputStream in = new DataInputStream(file)) {
            // Before the table: the mark of a class file, and its version.
            in.skipNBytes(8);
            return members(in, in.readUnsignedShort());
        }
    }

    private static List<String> members(DataInputStream in, int count) throws IOException {
        String[] texts = new String[count];
        int[][] pairs = new int[count][];
        List<Integer> members = new ArrayList<>();
        for (int i = 1; i < count; i++) {
            int tag = in.readUnsignedByte();
            switch (tag) {
                case 1 -> texts[i] = in.readUTF();
                case 3, 4 -> in.skipNBytes(4);
                case 5, 6 -> {
                    in.skipNBytes(8);
                    // A long or a double takes two places of the table.
                    i++;
                }
                case 7, 8 -> pairs[i] = new int[] {in.readUnsignedShort()};
                case 9, 10, 11 -> {
                    pairs[i] = new int[] {in.readUnsignedShort(), in.readUnsignedShort()};
                    members.add(i);
                }
                case 12 -> pairs[i] = new int[] {in.readUnsignedShort(), in.readUnsignedShort()};
                default -> throw new IOException("a lambda, or texts joined by +: tag " + tag);
            }
        }
        return members.stream().map(member -> {
            int[] nameAndType = pairs[pairs[member][1]];
            return texts[pairs[pairs[member][0]][0]] + "." + texts[nameAndType[0]]
                    + texts[nameAndType[1]];
        }).toList();
    }
}
