import java.io.DataInputStream;
import java.io.IOException;
import java.io.InputStream;
import java.util.ArrayList;
import java.util.List;
import java.util.Set;

/** What the compiled class calls: methods of its own, Math's, and the constructors of three exceptions. */
public final class LibraryTest {
    private static final String OWN = "PortolanHall";
    private static final Set<String> LISTED = Set.of(
        "java/lang/Object.<init>()V", "java/lang/Math.max(II)I", "java/lang/Math.abs(I)I",
        "java/lang/IndexOutOfBoundsException.<init>(Ljava/lang/String;)V",
        "java/lang/IllegalArgumentException.<init>(Ljava/lang/String;)V",
        "java/lang/IllegalStateException.<init>(Ljava/lang/String;)V");

    private static final int UTF8 = 1;
    private static final int LONG = 5;
    private static final int DOUBLE = 6;
    private static final int CLASS = 7;
    private static final int NAME_AND_TYPE = 12;
    private static final int INVOKE_DYNAMIC = 18;

    /** The entries of one constant pool: a kind, up to two numbers of other entries, and a text for each. */
    private final int[] kind;
    private final int[] first;
    private final int[] second;
    private final String[] text;

    private LibraryTest(int size) {
        kind = new int[size];
        first = new int[size];
        second = new int[size];
        text = new String[size];
    }

    public static void main(String[] args) throws IOException {
        List<Class<?>> all = new ArrayList<>(List.of(PortolanHall.class.getDeclaredClasses()));
        all.add(PortolanHall.class);
        int calls = 0;
        for (Class<?> one : all) {
            try (InputStream in = PortolanHall.class.getResourceAsStream("/" + one.getName() + ".class")) {
                calls += read(new DataInputStream(in)).checkCalls(one.getName());
            }
        }
        Check.yes("calls were found", calls > 20);
        Check.end("LibraryTest");
    }

    private static LibraryTest read(DataInputStream in) throws IOException {
        in.skipBytes(8);
        LibraryTest pool = new LibraryTest(in.readUnsignedShort());
        for (int i = 1; i < pool.kind.length; i++) {
            pool.kind[i] = in.readUnsignedByte();
            pool.readEntry(in, i);
            // A long or a double takes the place of two entries.
            if (pool.kind[i] == LONG || pool.kind[i] == DOUBLE) {
                i++;
            }
        }
        return pool;
    }

    private void readEntry(DataInputStream in, int i) throws IOException {
        switch (kind[i]) {
            case UTF8: text[i] = in.readUTF(); break;
            case 3: case 4: in.readInt(); break;
            case LONG: case DOUBLE: in.readLong(); break;
            case CLASS: case 8: case 16: case 19: case 20: first[i] = in.readUnsignedShort(); break;
            case 9: case 10: case 11: case NAME_AND_TYPE: case 17: case INVOKE_DYNAMIC:
                first[i] = in.readUnsignedShort();
                second[i] = in.readUnsignedShort();
                break;
            case 15: first[i] = in.readUnsignedByte(); second[i] = in.readUnsignedShort(); break;
            default: throw new IOException("no such kind of an entry: " + kind[i]);
        }
    }

    private int checkCalls(String name) {
        int calls = 0;
        for (int i = 1; i < kind.length; i++) {
            if (kind[i] >= 9 && kind[i] <= 11) {
                String owner = text[first[first[i]]];
                String member = owner + "." + text[first[second[i]]] + text[second[second[i]]];
                boolean isOwn = owner.equals(OWN) || owner.startsWith(OWN + "$");
                Check.yes(name + " may use " + member, isOwn || LISTED.contains(member));
                calls++;
            }
            Check.yes(name + " has no lambda, and joins no texts by +", kind[i] != INVOKE_DYNAMIC);
        }
        return calls;
    }
}
