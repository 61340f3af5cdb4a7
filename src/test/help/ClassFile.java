import java.io.DataInputStream;
import java.io.IOException;
import java.io.InputStream;
import java.util.ArrayList;
import java.util.Arrays;
import java.util.List;
import java.util.Set;
import java.util.TreeSet;

/** What a compiled class says of itself: its methods, what they call and what they do that a rule may refuse. */
final class ClassFile {
    static final class Method {
        final String name;
        final String described;
        final Set<String> calls = new TreeSet<>();
        boolean makes = false;
        boolean throwsOrCatches = false;
        int lines = 0;

        Method(String owner, String name, String descriptor) {
            this.name = name;
            this.described = owner + "." + name + descriptor;
        }
    }

    private static final int UTF8 = 1, LONG = 5, DOUBLE = 6, CLASS = 7, STRING = 8, FIELD = 9, METHOD = 10,
        INTERFACE_METHOD = 11, NAME_AND_TYPE = 12, HANDLE = 15;
    private static final int WIDE = 196, TABLE_SWITCH = 170, LOOKUP_SWITCH = 171;
    // How long each instruction is by its number, the two switches and wide set aside.
    private static final String[] LONGER = {
        "2: 16 18 21-25 54-58 169 188", "3: 17 19 20 132 153-168 178-184 187 189 192 193 198 199", "4: 197",
        "5: 185 186 200 201"};

    final String name;
    final List<Method> methods = new ArrayList<>();
    private final int[] lengths = new int[256];
    private int[] tags;
    private int[] first;
    private int[] second;
    private String[] texts;

    ClassFile(String name) throws IOException {
        this.name = name;
        fillLengths();
        try (InputStream file = ClassFile.class.getResourceAsStream("/" + name + ".class")) {
            DataInputStream in = new DataInputStream(file);
            in.readLong();
            readConstants(in);
            in.skipBytes(6);
            in.skipBytes(2 * in.readUnsignedShort());
            readMembers(in, false);
            readMembers(in, true);
        }
    }

    private void fillLengths() {
        Arrays.fill(lengths, 1);
        for (String row : LONGER) {
            int length = row.charAt(0) - '0';
            for (String range : row.substring(3).split(" ")) {
                String[] ends = range.split("-");
                for (int i = Integer.parseInt(ends[0]); i <= Integer.parseInt(ends[ends.length - 1]); i++) {
                    lengths[i] = length;
                }
            }
        }
    }

    private void readConstants(DataInputStream in) throws IOException {
        int size = in.readUnsignedShort();
        tags = new int[size];
        first = new int[size];
        second = new int[size];
        texts = new String[size];
        for (int i = 1; i < size; i++) {
            tags[i] = in.readUnsignedByte();
            switch (tags[i]) {
                case UTF8 -> texts[i] = in.readUTF();
                case LONG, DOUBLE -> {
                    in.readLong();
                    i++;
                }
                case CLASS, STRING, 16, 19, 20 -> first[i] = in.readUnsignedShort();
                case FIELD, METHOD, INTERFACE_METHOD, NAME_AND_TYPE, 17, 18 -> {
                    first[i] = in.readUnsignedShort();
                    second[i] = in.readUnsignedShort();
                }
                case HANDLE -> in.skipBytes(3);
                default -> in.skipBytes(4);
            }
        }
    }

    private void readMembers(DataInputStream in, boolean areMethods) throws IOException {
        int members = in.readUnsignedShort();
        for (int i = 0; i < members; i++) {
            in.readUnsignedShort();
            Method method = new Method(name, texts[in.readUnsignedShort()], texts[in.readUnsignedShort()]);
            int attributes = in.readUnsignedShort();
            for (int j = 0; j < attributes; j++) {
                String attribute = texts[in.readUnsignedShort()];
                int length = in.readInt();
                if (attribute.equals("Code")) {
                    readCode(in, method);
                } else {
                    in.skipBytes(length);
                }
            }
            if (areMethods) {
                methods.add(method);
            }
        }
    }

    private void readCode(DataInputStream in, Method method) throws IOException {
        in.readInt();
        byte[] code = new byte[in.readInt()];
        in.readFully(code);
        int caught = in.readUnsignedShort();
        method.throwsOrCatches = caught > 0;
        in.skipBytes(8 * caught);
        int attributes = in.readUnsignedShort();
        for (int i = 0; i < attributes; i++) {
            String attribute = texts[in.readUnsignedShort()];
            int length = in.readInt();
            if (attribute.equals("LineNumberTable")) {
                readLines(in, method);
            } else {
                in.skipBytes(length);
            }
        }
        for (int at = 0; at < code.length; at += lengthAt(code, at)) {
            look(code, at, method);
        }
    }

    private static void readLines(DataInputStream in, Method method) throws IOException {
        int rows = in.readUnsignedShort();
        int least = Integer.MAX_VALUE;
        int most = 0;
        for (int i = 0; i < rows; i++) {
            in.readUnsignedShort();
            int line = in.readUnsignedShort();
            least = Math.min(least, line);
            most = Math.max(most, line);
        }
        method.lines = rows == 0 ? 0 : most - least + 1;
    }

    private void look(byte[] code, int at, Method method) {
        int does = code[at] & 255;
        if (does >= 182 && does <= 185) {
            method.calls.add(called((code[at + 1] & 255) << 8 | code[at + 2] & 255));
        }
        if (does == 186) {
            method.calls.add("invokedynamic");
        }
        method.makes |= does >= 187 && does <= 189 || does == 197;
        method.throwsOrCatches |= does == 191 || does == 194 || does == 195;
    }

    private String called(int reference) {
        int what = second[reference];
        return texts[first[first[reference]]] + "." + texts[first[what]] + texts[second[what]];
    }

    private int lengthAt(byte[] code, int at) {
        int does = code[at] & 255;
        if (does == WIDE) {
            return (code[at + 1] & 255) == 132 ? 6 : 4;
        }
        if (does != TABLE_SWITCH && does != LOOKUP_SWITCH) {
            return lengths[does];
        }
        int start = (at + 4) / 4 * 4;
        int rows = does == LOOKUP_SWITCH ? 2 * number(code, start + 4)
            : number(code, start + 8) - number(code, start + 4) + 2;
        return start + 8 + 4 * rows - at;
    }

    private static int number(byte[] code, int at) {
        return code[at] << 24 | (code[at + 1] & 255) << 16 | (code[at + 2] & 255) << 8 | code[at + 3] & 255;
    }
}
