import java.io.ByteArrayInputStream;
import java.io.DataInputStream;
import java.io.IOException;
import java.io.InputStream;
import java.util.LinkedHashMap;
import java.util.Map;
import java.util.Set;
import java.util.TreeSet;

/** Which methods each method of the class and of those inside it calls, as javac wrote them. */
final class ClassCalls {
    /** A call that is no method's name: lambdas, method references and texts joined by + become such. */
    static final String DYNAMIC = "invokedynamic";

    private static final int UTF8 = 1;
    private static final int LONG = 5;
    private static final int DOUBLE = 6;
    private static final int CLASS = 7;
    private static final int STRING = 8;
    private static final int METHOD_HANDLE = 15;
    private static final int METHOD_TYPE = 16;
    private static final int TABLESWITCH = 0xaa;
    private static final int LOOKUPSWITCH = 0xab;
    private static final int INVOKEVIRTUAL = 0xb6;
    private static final int INVOKEINTERFACE = 0xb9;
    private static final int INVOKEDYNAMIC = 0xba;
    private static final int WIDE = 0xc4;
    private static final int IINC = 0x84;
    /** First and last opcode and length of all that are longer than one byte, but for the switches and WIDE. */
    private static final int[][] LENGTHS = {{0x10, 0x10, 2}, {0x11, 0x11, 3}, {0x12, 0x12, 2}, {0x13, 0x14, 3}, {0x15, 0x19, 2},
            {0x36, 0x3a, 2}, {0x84, 0x84, 3}, {0x99, 0xa8, 3}, {0xa9, 0xa9, 2}, {0xb2, 0xb8, 3}, {0xb9, 0xba, 5}, {0xbb, 0xbb, 3},
            {0xbc, 0xbc, 2}, {0xbd, 0xbd, 3}, {0xc0, 0xc1, 3}, {0xc5, 0xc5, 4}, {0xc6, 0xc7, 3}, {0xc8, 0xc9, 5}};

    /** "Class.method(types)" of each method to the same of all that it calls. */
    final Map<String, Set<String>> calls = new LinkedHashMap<>();

    private Object[] pool = new Object[0];
    private String owner = "";

    static ClassCalls of(Class<?> outer) throws IOException {
        ClassCalls all = new ClassCalls();
        all.read(outer);
        for (Class<?> inside : outer.getDeclaredClasses()) {
            all.read(inside);
        }
        return all;
    }

    private void read(Class<?> c) throws IOException {
        owner = c.getName();
        try (InputStream file = c.getResourceAsStream("/" + owner + ".class")) {
            DataInputStream in = new DataInputStream(new ByteArrayInputStream(file.readAllBytes()));
            in.skipBytes(8);
            readPool(in);
            in.skipBytes(6);
            in.skipBytes(2 * in.readUnsignedShort());
            readMembers(in);
            readMembers(in);
        }
    }

    private void readPool(DataInputStream in) throws IOException {
        pool = new Object[in.readUnsignedShort()];
        for (int i = 1; i < pool.length; i++) {
            int tag = in.readUnsignedByte();
            if (tag == UTF8) {
                pool[i] = in.readUTF();
            } else if (tag == LONG || tag == DOUBLE) {
                in.skipBytes(8);
                i++;
            } else if (tag == CLASS || tag == STRING || tag == METHOD_TYPE) {
                pool[i] = new int[] {in.readUnsignedShort()};
            } else if (tag == METHOD_HANDLE) {
                in.skipBytes(3);
            } else {
                pool[i] = new int[] {in.readUnsignedShort(), in.readUnsignedShort()};
            }
        }
    }

    /** Fields first, then methods, both in the same form; only methods have code. */
    private void readMembers(DataInputStream in) throws IOException {
        int many = in.readUnsignedShort();
        for (int m = 0; m < many; m++) {
            in.skipBytes(2);
            String name = text(in.readUnsignedShort()) + text(in.readUnsignedShort());
            int attributes = in.readUnsignedShort();
            for (int a = 0; a < attributes; a++) {
                boolean isCode = text(in.readUnsignedShort()).equals("Code");
                byte[] content = in.readNBytes(in.readInt());
                if (isCode) {
                    calls.put(owner + "." + name, calledBy(content));
                }
            }
        }
    }

    private Set<String> calledBy(byte[] content) {
        Set<String> called = new TreeSet<>();
        int start = 8;
        int size = four(content, 4);
        for (int at = 0; at < size; at += length(content, start, at)) {
            int opcode = content[start + at] & 255;
            if (opcode == INVOKEDYNAMIC) {
                called.add(DYNAMIC);
            } else if (opcode >= INVOKEVIRTUAL && opcode <= INVOKEINTERFACE) {
                called.add(method((content[start + at + 1] & 255) << 8 | content[start + at + 2] & 255));
            }
        }
        return called;
    }

    private static int length(byte[] content, int start, int at) {
        int opcode = content[start + at] & 255;
        int padded = (at & ~3) + 4;
        if (opcode == TABLESWITCH) {
            return padded - at + 12 + 4 * (four(content, start + padded + 8) - four(content, start + padded + 4) + 1);
        }
        if (opcode == LOOKUPSWITCH) {
            return padded - at + 8 + 8 * four(content, start + padded + 4);
        }
        if (opcode == WIDE) {
            return (content[start + at + 1] & 255) == IINC ? 6 : 4;
        }
        for (int[] range : LENGTHS) {
            if (opcode >= range[0] && opcode <= range[1]) {
                return range[2];
            }
        }
        return 1;
    }

    private static int four(byte[] content, int at) {
        return (content[at] & 255) << 24 | (content[at + 1] & 255) << 16 | (content[at + 2] & 255) << 8 | content[at + 3] & 255;
    }

    private String text(int i) {
        return (String) pool[i];
    }

    private String method(int i) {
        int[] reference = (int[]) pool[i];
        int[] nameAndType = (int[]) pool[reference[1]];
        String inClass = text(((int[]) pool[reference[0]])[0]).replace('/', '.');
        return inClass + "." + text(nameAndType[0]) + text(nameAndType[1]);
    }

    /** How many calls stand open at once below a method, it too, a library's method as one; -1 for a recursion. */
    int depth(String method) {
        return depth(method, new TreeSet<>());
    }

    private int depth(String method, Set<String> standing) {
        if (!standing.add(method)) {
            return -1;
        }
        int deepest = 0;
        for (String called : calls.getOrDefault(method, Set.of())) {
            int below = depth(called, standing);
            if (below < 0) {
                return -1;
            }
            deepest = Math.max(deepest, below);
        }
        standing.remove(method);
        return deepest + 1;
    }
}
