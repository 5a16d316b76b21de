import java.io.DataInputStream;
import java.io.IOException;
import java.io.InputStream;
import java.util.ArrayList;
import java.util.List;

/** What a compiled class names of other classes and of its own: the members in its table of constants. */
final class Compiled {
    /** Stands for what only the machine makes: a lambda, a method reference, a joined text. */
    static final String MADE_BY_THE_MACHINE = "made by the machine";

    private static final int TEXT = 1;
    private static final int INT = 3;
    private static final int FLOAT = 4;
    private static final int LONG = 5;
    private static final int DOUBLE = 6;
    private static final int CLASS = 7;
    private static final int STRING = 8;
    private static final int FIELD = 9;
    private static final int INTERFACE_METHOD = 11;
    private static final int NAME_AND_TYPE = 12;
    private static final int HEAD = 8;

    private final String[] texts;
    private final int[] first;
    private final int[] second;
    private final List<Integer> members = new ArrayList<>();
    private boolean isMadeByTheMachine;

    private Compiled(DataInputStream in) throws IOException {
        in.skipBytes(HEAD);
        int count = in.readUnsignedShort();
        texts = new String[count];
        first = new int[count];
        second = new int[count];
        for (int i = 1; i < count && !isMadeByTheMachine; i++) {
            int tag = in.readUnsignedByte();
            read(in, i, tag);
            if (tag == LONG || tag == DOUBLE) {
                i++; // The table counts these twice.
            }
        }
    }

    /** As "java/lang/Math.abs", methods and fields. */
    static List<String> namedBy(Class<?> one) throws IOException {
        try (InputStream stream = one.getResourceAsStream(one.getName() + ".class")) {
            return new Compiled(new DataInputStream(stream)).names();
        }
    }

    private void read(DataInputStream in, int index, int tag) throws IOException {
        if (tag == TEXT) {
            texts[index] = in.readUTF();
        } else if (tag == INT || tag == FLOAT) {
            in.skipBytes(4);
        } else if (tag == LONG || tag == DOUBLE) {
            in.skipBytes(8);
        } else if (tag == CLASS || tag == STRING) {
            first[index] = in.readUnsignedShort();
        } else if (tag >= FIELD && tag <= NAME_AND_TYPE) {
            first[index] = in.readUnsignedShort();
            second[index] = in.readUnsignedShort();
            if (tag <= INTERFACE_METHOD) {
                members.add(index);
            }
        } else {
            isMadeByTheMachine = true;
        }
    }

    private List<String> names() {
        if (isMadeByTheMachine) {
            return List.of(MADE_BY_THE_MACHINE);
        }
        List<String> names = new ArrayList<>();
        for (int member : members) {
            names.add(texts[first[first[member]]] + "." + texts[first[second[member]]]);
        }
        return names;
    }
}
