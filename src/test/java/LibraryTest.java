import java.io.DataInputStream;
import java.io.IOException;
import java.io.InputStream;
import java.util.ArrayList;
import java.util.List;
import java.util.Map;
import java.util.Set;
import java.util.TreeSet;

/**
 * The compiled class uses nothing of the library but what the rules 4 and 6 of LANGUAGE.md name word
 * for word, and what every class, enum and record has of itself.
 */
public final class LibraryTest {
    /** By class, the names that may be used of it. */
    private static final Map<String, Set<String>> ALLOWED = Map.ofEntries(
        Map.entry("java/lang/Object", Set.of("<init>")),
        Map.entry("java/lang/Record", Set.of("<init>")),
        Map.entry("java/lang/Enum", Set.of("<init>", "valueOf", "ordinal")),
        Map.entry("java/lang/String", Set.of("<init>", "length", "charAt", "isEmpty", "equals", "indexOf",
            "substring", "toCharArray")),
        Map.entry("java/lang/StringBuilder", Set.of("<init>", "append", "charAt", "setCharAt", "setLength",
            "deleteCharAt", "reverse", "length", "toString")),
        Map.entry("java/util/ArrayList", Set.of("<init>", "add", "get", "set", "remove", "size", "isEmpty",
            "clear", "iterator")),
        Map.entry("java/util/List", Set.of("add", "get", "set", "remove", "size", "isEmpty", "clear",
            "iterator", "of")),
        Map.entry("java/util/Iterator", Set.of("hasNext", "next")),
        Map.entry("java/lang/Integer", Set.of("compare", "max", "min", "bitCount", "valueOf", "intValue")),
        Map.entry("java/lang/Long", Set.of("compare", "max", "min", "bitCount")),
        Map.entry("java/lang/Math", Set.of("max", "min", "abs", "floorDiv", "floorMod")),
        Map.entry("java/lang/System", Set.of("arraycopy")),
        Map.entry("java/util/Arrays", Set.of("copyOf", "copyOfRange", "fill")),
        Map.entry("java/lang/IllegalStateException", Set.of("<init>")),
        Map.entry("java/lang/IllegalArgumentException", Set.of("<init>")),
        Map.entry("java/lang/IndexOutOfBoundsException", Set.of("<init>")),
        Map.entry("java/lang/ArithmeticException", Set.of("<init>")),
        Map.entry("java/lang/UnsupportedOperationException", Set.of("<init>")),
        Map.entry("java/util/NoSuchElementException", Set.of("<init>")),
        Map.entry("java/lang/RuntimeException", Set.of("<init>"))
    );

    private static final int UTF8 = 1;
    private static final int LONG = 5;
    private static final int DOUBLE = 6;
    private static final int CLASS = 7;
    private static final int FIELD = 9;
    private static final int METHOD = 10;
    private static final int INTERFACE_METHOD = 11;
    private static final int NAME_AND_TYPE = 12;
    private static final int METHOD_TYPE = 16;

    /** By the place in the table of constants: its kind, its text, and the two places it points to. */
    private int[] kinds;
    private String[] texts;
    private int[] firsts;
    private int[] seconds;

    public static void main(String[] args) throws IOException {
        Set<String> used = new TreeSet<>();
        for (String name : classNames()) {
            used.addAll(new LibraryTest().usedBy(name));
        }
        boolean seen = used.contains("java/lang/Object.<init>");
        used.removeIf(LibraryTest::isAllowed);
        System.out.println(seen ? used.size() + " uses of the library outside rule 4 " + used : "no use was seen");
        if (!seen || !used.isEmpty()) {
            System.exit(1);
        }
    }

    /** An array has no other method than clone. */
    private static boolean isAllowed(String use) {
        int dot = use.indexOf('.');
        String owner = use.substring(0, dot);
        return owner.startsWith("[") || ALLOWED.getOrDefault(owner, Set.of()).contains(use.substring(dot + 1));
    }

    private static List<String> classNames() {
        List<String> names = new ArrayList<>();
        names.add(ExactDigits.class.getName());
        for (Class<?> inside : ExactDigits.class.getDeclaredClasses()) {
            names.add(inside.getName());
        }
        return names;
    }

    private Set<String> usedBy(String name) throws IOException {
        try (InputStream file = LibraryTest.class.getResourceAsStream("/" + name + ".class");
                DataInputStream in = new DataInputStream(file)) {
            in.readInt();
            in.readInt();
            readConstants(in);
        }
        Set<String> used = new TreeSet<>();
        for (int i = 1; i < kinds.length; i++) {
            if (kinds[i] == FIELD || kinds[i] == METHOD || kinds[i] == INTERFACE_METHOD) {
                String owner = texts[firsts[firsts[i]]];
                if (!owner.startsWith("ExactDigits")) {
                    used.add(owner + "." + texts[firsts[seconds[i]]]);
                }
            }
        }
        return used;
    }

    private void readConstants(DataInputStream in) throws IOException {
        int n = in.readUnsignedShort();
        kinds = new int[n];
        texts = new String[n];
        firsts = new int[n];
        seconds = new int[n];
        for (int i = 1; i < n; i++) {
            kinds[i] = in.readUnsignedByte();
            readConstant(in, i);
            // a long or a double takes two places of the table
            if (kinds[i] == LONG || kinds[i] == DOUBLE) {
                i++;
            }
        }
    }

    private void readConstant(DataInputStream in, int i) throws IOException {
        switch (kinds[i]) {
            case UTF8 -> texts[i] = in.readUTF();
            case LONG, DOUBLE -> in.readLong();
            case CLASS, 8, METHOD_TYPE, 19, 20 -> firsts[i] = in.readUnsignedShort();
            case 3, 4 -> in.readInt();
            case FIELD, METHOD, INTERFACE_METHOD, NAME_AND_TYPE, 17, 18 -> {
                firsts[i] = in.readUnsignedShort();
                seconds[i] = in.readUnsignedShort();
            }
            case 15 -> in.skipBytes(3);
            default -> throw new IOException("constant of kind " + kinds[i]);
        }
    }
}
