import java.io.DataInputStream;
import java.io.IOException;
import java.io.InputStream;
import java.util.ArrayList;
import java.util.List;
import java.util.Set;
import java.util.TreeSet;

/**
 * The compiled class uses nothing of the library but what rule 4 of LANGUAGE.md names word for word,
 * what every class and enum has of itself, and the exceptions that the document names.
 */
public final class LibraryTest {
    private static final Set<String> ALLOWED = Set.of(
        "java/lang/Object.<init>",
        "java/lang/Enum.<init>",
        "java/lang/Enum.valueOf",
        "java/lang/ArithmeticException.<init>",
        "java/lang/IllegalArgumentException.<init>",
        "java/lang/Integer.bitCount",
        "java/lang/Integer.compare",
        "java/lang/Long.bitCount",
        "java/lang/Long.compare",
        "java/lang/Math.abs",
        "java/lang/Math.floorDiv",
        "java/lang/Math.floorMod",
        "java/lang/Math.max",
        "java/lang/Math.min",
        "java/lang/System.arraycopy",
        "java/util/Arrays.copyOf",
        "java/util/Arrays.copyOfRange",
        "java/util/Arrays.fill"
    );

    private static final int UTF8 = 1;
    private static final int LONG = 5;
    private static final int DOUBLE = 6;
    private static final int CLASS = 7;
    private static final int FIELD = 9;
    private static final int METHOD = 10;
    private static final int INTERFACE_METHOD = 11;
    private static final int NAME_AND_TYPE = 12;
    private static final int METHOD_TYPE = 16;

    /** By the place in the table of constants: its kind, its text, and the two places it points to. */
    private int[] kinds;
    private String[] texts;
    private int[] firsts;
    private int[] seconds;

    public static void main(String[] args) throws IOException {
        Set<String> used = new TreeSet<>();
        for (String name : classNames()) {
            used.addAll(new LibraryTest().usedBy(name));
        }
        boolean seen = used.contains("java/lang/Object.<init>");
        used.removeAll(ALLOWED);
        System.out.println(seen ? used.size() + " uses of the library outside rule 4 " + used : "no use was seen");
        if (!seen || !used.isEmpty()) {
            System.exit(1);
        }
    }

    private static List<String> classNames() {
        List<String> names = new ArrayList<>();
        names.add(ExactDigits.class.getName());
        for (Class<?> inside : ExactDigits.class.getDeclaredClasses()) {
            names.add(inside.getName());
        }
        return names;
    }

    private Set<String> usedBy(String name) throws IOException {
        try (InputStream file = LibraryTest.class.getResourceAsStream("/" + name + ".class");
                DataInputStream in = new DataInputStream(file)) {
            in.readInt();
            in.readInt();
            readConstants(in);
        }
        Set<String> used = new TreeSet<>();
        for (int i = 1; i < kinds.length; i++) {
            if (kinds[i] == FIELD || kinds[i] == METHOD || kinds[i] == INTERFACE_METHOD) {
                String owner = texts[firsts[firsts[i]]];
                if (!owner.startsWith("ExactDigits") && !owner.startsWith("[LExactDigits")) {
                    used.add(owner + "." + texts[firsts[seconds[i]]]);
                }
            }
        }
        return used;
    }

    private void readConstants(DataInputStream in) throws IOException {
        int n = in.readUnsignedShort();
        kinds = new int[n];
        texts = new String[n];
        firsts = new int[n];
        seconds = new int[n];
        for (int i = 1; i < n; i++) {
            kinds[i] = in.readUnsignedByte();
            readConstant(in, i);
            // a long or a double takes two places of the table
            if (kinds[i] == LONG || kinds[i] == DOUBLE) {
                i++;
            }
        }
    }

    private void readConstant(DataInputStream in, int i) throws IOException {
        switch (kinds[i]) {
            case UTF8 -> texts[i] = in.readUTF();
            case LONG, DOUBLE -> in.readLong();
            case CLASS, 8, METHOD_TYPE, 19, 20 -> firsts[i] = in.readUnsignedShort();
            case 3, 4 -> in.readInt();
            case FIELD, METHOD, INTERFACE_METHOD, NAME_AND_TYPE, 17, 18 -> {
                firsts[i] = in.readUnsignedShort();
                seconds[i] = in.readUnsignedShort();
            }
            case 15 -> in.skipBytes(3);
            default -> throw new IOException("constant of kind " + kinds[i]);
        }
    }
}
