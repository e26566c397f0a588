import java.io.DataInputStream;
import java.io.IOException;
import java.io.InputStream;
import java.lang.management.ManagementFactory;
import java.lang.reflect.Constructor;
import java.lang.reflect.Field;
import java.lang.reflect.Method;
import java.lang.reflect.Modifier;
import java.nio.file.Files;
import java.nio.file.Path;
import java.util.ArrayList;
import java.util.Arrays;
import java.util.HashSet;
import java.util.List;
import java.util.Map;
import java.util.Set;

/**
 * The class keeps to those rules of LANGUAGE.md that can be seen in the compiled class and in its
 * source's signs; FaceTest looks at rule 1.
 */
public final class LanguageTest {
    private static final int MOST_PARAMETERS = 7;
    private static final int MOST_FIELDS = 20;
    private static final int MOST_LINES = 60;
    private static final int MOST_OBJECT_BYTES = 100_000;
    // the meter itself may make something; a row of a plan made in each call would be far more
    private static final int MOST_BYTES_OF_CALLS = 1000;
    private static final String OWN = "TownFolk";
    private static final Path SOURCE = Path.of("src/main/java/TownFolk.java");
    // rule 4, and rule 6 without the exceptions: the document names none
    private static final Map<String, Set<String>> LIBRARY = Map.of(
        "java/lang/Object", Set.of("<init>"),
        "java/lang/String", Set.of("<init>", "length", "charAt", "isEmpty", "equals", "indexOf", "substring",
            "toCharArray"),
        "java/lang/StringBuilder", Set.of("<init>", "append", "charAt", "setCharAt", "setLength", "deleteCharAt",
            "reverse", "length", "toString"),
        "java/lang/Integer", Set.of("valueOf", "intValue", "compare", "max", "min", "bitCount"),
        "java/lang/Long", Set.of("compare", "max", "min", "bitCount"),
        "java/lang/Math", Set.of("max", "min", "abs", "floorDiv", "floorMod"),
        "java/lang/System", Set.of("arraycopy"),
        "java/util/Arrays", Set.of("copyOf", "copyOfRange", "fill"),
        "java/util/ArrayList", Set.of("<init>", "add", "get", "set", "remove", "size", "isEmpty", "clear"),
        "java/util/List", Set.of("of", "add", "get", "set", "remove", "size", "isEmpty", "clear"));

    private LanguageTest() {
    }

    // ---- a compiled class, read as far as the rules need it

    private static final class Compiled {
        private final String[] texts;
        private final int[] firsts;
        private final int[] seconds;
        private final int[] tags;

        Compiled(DataInputStream in) throws IOException {
            in.readInt();
            in.readInt();
            int count = in.readUnsignedShort();
            texts = new String[count];
            firsts = new int[count];
            seconds = new int[count];
            tags = new int[count];
            for (int i = 1; i < count; i++) {
                tags[i] = in.readUnsignedByte();
                readConstant(in, i);
                // a long and a double take two numbers
                i += tags[i] == 5 || tags[i] == 6 ? 1 : 0;
            }
        }

        private void readConstant(DataInputStream in, int i) throws IOException {
            switch (tags[i]) {
                case 1: texts[i] = in.readUTF(); break;
                case 3: case 4: in.readInt(); break;
                case 5: case 6: in.readLong(); break;
                case 7: case 8: case 16: case 19: case 20: firsts[i] = in.readUnsignedShort(); break;
                case 15: in.readUnsignedByte(); in.readUnsignedShort(); break;
                default: firsts[i] = in.readUnsignedShort(); seconds[i] = in.readUnsignedShort(); break;
            }
        }

        void checkConstants(String name) {
            for (int i = 1; i < tags.length; i++) {
                boolean isMadeInTheRun = tags[i] >= 15 && tags[i] <= 18;
                Report.holds(!isMadeInTheRun, name + " holds a lambda, a method reference or texts joined by +");
                if (tags[i] == 7) {
                    checkClass(name, texts[firsts[i]]);
                } else if (tags[i] == 9 || tags[i] == 10 || tags[i] == 11) {
                    checkMember(name, texts[firsts[firsts[i]]], texts[firsts[seconds[i]]], tags[i] == 9);
                }
            }
        }

        private static void checkClass(String name, String used) {
            String bare = used.startsWith("[") ? used.replaceAll("^\\[+L?|;$", "") : used;
            boolean isNumbers = used.startsWith("[") && bare.length() == 1;
            Report.holds(isNumbers || isOwn(bare) || LIBRARY.containsKey(bare), name + " uses " + used);
        }

        private static void checkMember(String name, String owner, String member, boolean isField) {
            // an array's clone is the one member that an array has
            boolean isFine = isOwn(owner) || owner.startsWith("[") && member.equals("clone")
                || !isField && LIBRARY.getOrDefault(owner, Set.of()).contains(member);
            Report.holds(isFine, name + " uses " + owner + "." + member);
        }

        void checkMethods(DataInputStream in, String name) throws IOException {
            in.readUnsignedShort();
            in.readUnsignedShort();
            in.readUnsignedShort();
            in.skipNBytes(2L * in.readUnsignedShort());
            for (int fields = in.readUnsignedShort(); fields > 0; fields--) {
                in.skipNBytes(6);
                skipAttributes(in);
            }
            for (int methods = in.readUnsignedShort(); methods > 0; methods--) {
                in.readUnsignedShort();
                String method = name + "." + texts[in.readUnsignedShort()];
                in.readUnsignedShort();
                for (int attributes = in.readUnsignedShort(); attributes > 0; attributes--) {
                    String attribute = texts[in.readUnsignedShort()];
                    int length = in.readInt();
                    if (attribute.equals("Code")) {
                        checkCode(in, method);
                    } else {
                        in.skipNBytes(length);
                    }
                }
            }
        }

        private void checkCode(DataInputStream in, String method) throws IOException {
            in.readInt();
            in.skipNBytes(in.readInt());
            int caught = in.readUnsignedShort();
            Report.holds(caught == 0, method + " catches, though nothing is thrown");
            in.skipNBytes(8L * caught);
            for (int attributes = in.readUnsignedShort(); attributes > 0; attributes--) {
                String attribute = texts[in.readUnsignedShort()];
                int length = in.readInt();
                if (attribute.equals("LineNumberTable")) {
                    checkLines(in, method);
                } else {
                    in.skipNBytes(length);
                }
            }
        }

        private static void checkLines(DataInputStream in, String method) throws IOException {
            int first = Integer.MAX_VALUE;
            int last = 0;
            for (int rows = in.readUnsignedShort(); rows > 0; rows--) {
                in.readUnsignedShort();
                int line = in.readUnsignedShort();
                first = Math.min(first, line);
                last = Math.max(last, line);
            }
            // a constructor's lines begin where its class's fields do
            Report.holds(method.endsWith("<init>") || last - first < MOST_LINES, method + " is too long");
        }

        private static void skipAttributes(DataInputStream in) throws IOException {
            for (int attributes = in.readUnsignedShort(); attributes > 0; attributes--) {
                in.readUnsignedShort();
                in.skipNBytes(in.readInt());
            }
        }
    }

    private static boolean isOwn(String name) {
        return name.equals(OWN) || name.startsWith(OWN + "$");
    }

    private static void compiled(Class<?> c) throws IOException {
        String name = c.getName();
        try (InputStream file = c.getResourceAsStream("/" + name + ".class")) {
            Report.holds(file != null, name + ".class isn't found");
            if (file == null) {
                return;
            }
            DataInputStream in = new DataInputStream(file);
            Compiled parts = new Compiled(in);
            parts.checkConstants(name);
            parts.checkMethods(in, name);
        }
    }

    // ---- what reflection shows

    private static void members(Class<?> c) {
        int fields = 0;
        for (Field f : c.getDeclaredFields()) {
            boolean isStatic = Modifier.isStatic(f.getModifiers());
            fields += isStatic ? 0 : 1;
            boolean isConstant = Modifier.isFinal(f.getModifiers()) && mayBeStatic(f.getType());
            Report.holds(!isStatic || isConstant, f + " is static");
        }
        Report.holds(fields <= MOST_FIELDS, c + " has " + fields + " fields");
        for (Method m : c.getDeclaredMethods()) {
            checkParameters(m.toString(), m.getParameterCount());
            Report.holds(!Set.of("equals", "hashCode", "toString").contains(m.getName()), m + " is made anew");
        }
        for (Constructor<?> made : c.getDeclaredConstructors()) {
            checkParameters(made.toString(), made.getParameterCount());
        }
    }

    private static boolean mayBeStatic(Class<?> type) {
        Class<?> single = type.isArray() ? type.getComponentType() : type;
        return single.isPrimitive() || type == String.class;
    }

    private static void checkParameters(String what, int count) {
        Report.holds(count <= MOST_PARAMETERS, what + " takes " + count + " parameters");
    }

    // ---- the source

    private static void source() throws IOException {
        boolean isPlain = true;
        for (byte sign : Files.readAllBytes(SOURCE)) {
            isPlain &= sign > 0;
        }
        Report.holds(isPlain, "the source holds a sign above 127, or 0");
        String code = Files.readString(SOURCE).replaceAll("(?s)/\\*.*?\\*/", "").replaceAll("//[^\n]*", "");
        Set<String> words = new HashSet<>(Arrays.asList(code.split("\\W+")));
        for (String word : List.of("package", "throw", "throws", "try", "catch", "finally", "synchronized", "assert",
                "var", "yield", "native", "volatile", "transient", "strictfp")) {
            Report.holds(!words.contains(word), "the source holds the word " + word);
        }
        Report.holds(!code.contains("->") && !code.contains("::"), "the source holds a lambda or a method reference");
    }

    // ---- the room that objects take

    /** All rows are made by the constructor: the calls make nothing more. */
    private static void room() {
        if (!(ManagementFactory.getThreadMXBean() instanceof com.sun.management.ThreadMXBean)) {
            return;
        }
        com.sun.management.ThreadMXBean meter = (com.sun.management.ThreadMXBean) ManagementFactory.getThreadMXBean();
        long thread = Thread.currentThread().getId();
        List<Long> made = new ArrayList<>();
        // what the Java machine makes when a call is made for the first time isn't the object's
        for (int round = 0; round < 3; round++) {
            long before = meter.getThreadAllocatedBytes(thread);
            TownFolk town = new TownFolk();
            long between = meter.getThreadAllocatedBytes(thread);
            useOften(town);
            long after = meter.getThreadAllocatedBytes(thread);
            made.add(between - before);
            made.add(after - between);
        }
        Report.holds(made.get(4) <= MOST_OBJECT_BYTES, "an object takes " + made.get(4) + " bytes");
        Report.holds(made.get(5) <= MOST_BYTES_OF_CALLS, "its calls take " + made.get(5) + " bytes");
    }

    private static void useOften(TownFolk town) {
        for (int p = 0; p < 12; p++) {
            town.place(2, 0, 48);
            town.way(p, p - 1, 1);
            town.folk(p);
        }
        town.meeting(7, 1, 10, 12, 50);
        town.row(0, 1, 4);
        town.set(0, 2, 5);
        town.set(0, 3, 7);
        town.duties(0, 0);
        town.row(1, 0, 12);
        town.begin();
        for (int round = 0; round < 19; round++) {
            town.row(2, round % 4, round);
            town.copy(0, 2, 0, 0, 3);
            town.show(3, round);
            town.homeIn(3);
            town.likes(round, 1);
            town.key(round, 3, true);
            town.tick(48);
            town.happen(round % 12);
            town.tick(5);
            town.bend(round % 12, 5, 10, 12);
            town.lock(round % 12, round % 3 > 0);
            town.again(3);
            town.where(3, 9);
            town.cost(3);
            town.seated(3, 9);
            town.knows(3, 0);
            town.met(0, 0);
            town.far(0, 11);
            town.status(3);
            town.fault(0);
            town.holds(0);
            town.element(0, 3);
        }
        town.gone(1);
    }

    public static void main(String[] args) throws IOException {
        Report.setting("LANGUAGE.md");
        List<Class<?>> all = new ArrayList<>(Arrays.asList(TownFolk.class.getDeclaredClasses()));
        all.add(TownFolk.class);
        for (Class<?> c : all) {
            compiled(c);
            members(c);
        }
        source();
        room();
        Report.end("LanguageTest");
    }
}
