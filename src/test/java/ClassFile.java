import java.io.DataInputStream;
import java.io.IOException;
import java.io.InputStream;
import java.util.ArrayList;
import java.util.List;
import java.util.Set;
import java.util.TreeSet;

/** A compiled class: its methods, what the code of each calls, and which instructions stand in it. */
final class ClassFile {
    static final int NEW = 187, NEW_ARRAY = 188, NEW_OBJECT_ARRAY = 189, THROW = 191, NEW_ARRAYS = 197;
    static final int INVOKE_FIRST = 182, INVOKE_DYNAMIC = 186, LOCK = 194, UNLOCK = 195;
    private static final int TABLE_SWITCH = 170, LOOKUP_SWITCH = 171, WIDE = 196, STEP = 132;
    private static final int UTF = 1, LONG = 5, DOUBLE = 6;

    static final class Code {
        String owner, name, type;
        int access, handlers;
        final Set<String> calls = new TreeSet<>();
        final Set<Integer> instructions = new TreeSet<>();

        String whole() {
            return owner + "." + name + type;
        }
    }

    final List<Code> methods = new ArrayList<>();
    private String[] texts;
    private int[][] pairs;

    ClassFile(Class<?> one) throws IOException {
        String file = one.getName() + ".class";
        try (InputStream in = one.getResourceAsStream(file)) {
            read(new DataInputStream(in));
        }
    }

    private void read(DataInputStream in) throws IOException {
        in.readInt();
        in.readInt();
        readPool(in);
        in.readUnsignedShort();
        String owner = texts[pairs[in.readUnsignedShort()][0]];
        in.readUnsignedShort();
        skip(in, 2 * in.readUnsignedShort());
        int fields = in.readUnsignedShort();
        for (int i = 0; i < fields; i++) {
            skip(in, 6);
            skipAttributes(in);
        }
        int all = in.readUnsignedShort();
        for (int i = 0; i < all; i++) {
            methods.add(readMethod(in, owner));
        }
    }

    private void readPool(DataInputStream in) throws IOException {
        int size = in.readUnsignedShort();
        texts = new String[size];
        pairs = new int[size][];
        for (int i = 1; i < size; i++) {
            int tag = in.readUnsignedByte();
            switch (tag) {
                case UTF: texts[i] = in.readUTF(); break;
                case 7: case 8: case 16: case 19: case 20: pairs[i] = new int[] {in.readUnsignedShort()}; break;
                case 9: case 10: case 11: case 12: case 17: case 18:
                    pairs[i] = new int[] {in.readUnsignedShort(), in.readUnsignedShort()};
                    break;
                case 15: skip(in, 3); break;
                case LONG: case DOUBLE: skip(in, 8); i++; break;
                default: skip(in, 4); break;
            }
        }
    }

    private Code readMethod(DataInputStream in, String owner) throws IOException {
        Code code = new Code();
        code.owner = owner;
        code.access = in.readUnsignedShort();
        code.name = texts[in.readUnsignedShort()];
        code.type = texts[in.readUnsignedShort()];
        int attributes = in.readUnsignedShort();
        for (int i = 0; i < attributes; i++) {
            String name = texts[in.readUnsignedShort()];
            int length = in.readInt();
            if (!name.equals("Code")) {
                skip(in, length);
                continue;
            }
            in.readInt();
            byte[] bytes = in.readNBytes(in.readInt());
            code.handlers = in.readUnsignedShort();
            skip(in, 8 * code.handlers);
            skipAttributes(in);
            look(bytes, code);
        }
        return code;
    }

    private void look(byte[] bytes, Code code) {
        for (int at = 0; at < bytes.length; at += lengthOf(bytes, at)) {
            int instruction = bytes[at] & 255;
            code.instructions.add(instruction);
            if (instruction >= INVOKE_FIRST && instruction < INVOKE_DYNAMIC) {
                int[] method = pairs[(bytes[at + 1] & 255) << 8 | bytes[at + 2] & 255];
                int[] nameAndType = pairs[method[1]];
                code.calls.add(texts[pairs[method[0]][0]] + "." + texts[nameAndType[0]] + texts[nameAndType[1]]);
            }
        }
    }

    private static int lengthOf(byte[] bytes, int at) {
        int one = bytes[at] & 255;
        int aligned = 4 - at % 4;
        if (one == TABLE_SWITCH) {
            return aligned + 12 + 4 * (intAt(bytes, at + aligned + 8) - intAt(bytes, at + aligned + 4) + 1);
        }
        if (one == LOOKUP_SWITCH) {
            return aligned + 8 + 8 * intAt(bytes, at + aligned + 4);
        }
        if (one == WIDE) {
            return (bytes[at + 1] & 255) == STEP ? 6 : 4;
        }
        return plainLength(one);
    }

    private static int plainLength(int one) {
        if (one == 16 || one == 18 || one >= 21 && one <= 25 || one >= 54 && one <= 58 || one == 169 || one == NEW_ARRAY) {
            return 2;
        }
        boolean three = one == 17 || one == 19 || one == 20 || one == STEP || one >= 153 && one <= 168
            || one >= 178 && one <= 184 || one == NEW || one == NEW_OBJECT_ARRAY || one == 192 || one == 193
            || one == 198 || one == 199;
        if (three) {
            return 3;
        }
        if (one == NEW_ARRAYS) {
            return 4;
        }
        return one == 185 || one == INVOKE_DYNAMIC || one == 200 || one == 201 ? 5 : 1;
    }

    private static int intAt(byte[] bytes, int at) {
        return (bytes[at] & 255) << 24 | (bytes[at + 1] & 255) << 16 | (bytes[at + 2] & 255) << 8 | bytes[at + 3] & 255;
    }

    private static void skipAttributes(DataInputStream in) throws IOException {
        int attributes = in.readUnsignedShort();
        for (int i = 0; i < attributes; i++) {
            in.readUnsignedShort();
            skip(in, in.readInt());
        }
    }

    private static void skip(DataInputStream in, int bytes) throws IOException {
        in.readNBytes(bytes);
    }
}
