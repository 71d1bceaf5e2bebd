import java.io.DataInputStream;
import java.io.IOException;
import java.io.InputStream;
import java.lang.invoke.MethodType;
import java.lang.reflect.Field;
import java.lang.reflect.Modifier;
import java.util.ArrayList;
import java.util.List;
import java.util.Set;
import java.util.TreeSet;

/** Rules 3, 4 and 11 of LANGUAGE.md, as the compiled classes show them: what they call and what they are made of. */
public final class LibraryTest {
    private static final Set<String> LISTED = Set.of(
        "String.length()", "String.charAt(int)", "String.indexOf(int)", "StringBuilder.<init>()", "StringBuilder.append(char)",
        "StringBuilder.append(String)", "StringBuilder.append(int)", "StringBuilder.charAt(int)", "StringBuilder.setLength(int)",
        "StringBuilder.length()", "Integer.bitCount(int)", "Math.max(int, int)", "Math.min(int, int)", "Math.abs(int)");
    /** What the compiler itself calls for classes and enums. */
    private static final Set<String> UNSEEN = Set.of(
        "Object.<init>()", "Enum.<init>(String, int)", "Enum.valueOf(Class, String)", "[LCopperStreet$Kind;.clone()",
        "[LCopperStreet$Verb;.clone()");
    private static final Set<String> TYPES = Set.of("int", "boolean", "String", "StringBuilder", "int[]");
    private static final int MOST_CLASSES = 12;
    private static final int MOST_FIELDS = 20;
    private static final Check CHECK = new Check("LibraryTest");

    public static void main(String[] args) throws IOException {
        List<Class<?>> classes = new ArrayList<>(List.of(CopperStreet.class.getDeclaredClasses()));
        classes.add(CopperStreet.class);
        CHECK.due("at most so many classes", true, classes.size() <= MOST_CLASSES);
        for (Class<?> one : classes) {
            CHECK.due(one.getName() + " holds no classes", 0, one == CopperStreet.class ? 0 : one.getDeclaredClasses().length);
            for (String call : libraryCallsOf(one)) {
                CHECK.due(one.getName() + " calls " + call, true, LISTED.contains(call) || UNSEEN.contains(call));
            }
            fieldsAreFewAndPlain(one);
        }
        CHECK.end();
    }

    private static void fieldsAreFewAndPlain(Class<?> one) {
        int fields = 0;
        for (Field field : one.getDeclaredFields()) {
            Class<?> type = field.getType().isArray() ? field.getType().getComponentType() : field.getType();
            boolean isOwn = type.getName().startsWith("CopperStreet");
            boolean isListed = TYPES.contains(field.getType().getSimpleName());
            CHECK.due(one.getName() + "." + field.getName() + " is of a plain type", true, isOwn || isListed);
            fields += Modifier.isStatic(field.getModifiers()) ? 0 : 1;
        }
        CHECK.due(one.getName() + " has at most so many fields", true, fields <= MOST_FIELDS);
    }

    /** The calls that the constant pool of a compiled class names, but for those of the own classes. */
    private static Set<String> libraryCallsOf(Class<?> one) throws IOException {
        try (InputStream in = LibraryTest.class.getResourceAsStream("/" + one.getName() + ".class")) {
            Object[] pool = poolOf(new DataInputStream(in));
            Set<String> calls = new TreeSet<>();
            for (Object entry : pool) {
                if (entry instanceof Pair pair && pair.tag() >= 10 && pair.tag() <= 11) {
                    String owner = (String) pool[((Pair) pool[pair.first()]).first()];
                    Pair named = (Pair) pool[pair.second()];
                    if (!owner.startsWith("CopperStreet")) {
                        calls.add(told(owner, (String) pool[named.first()], (String) pool[named.second()]));
                    }
                }
            }
            return calls;
        }
    }

    /** An entry of the constant pool that points to one or two others. */
    private record Pair(int tag, int first, int second) {
    }

    private static Object[] poolOf(DataInputStream in) throws IOException {
        in.skipBytes(8);
        Object[] pool = new Object[in.readUnsignedShort()];
        for (int i = 1; i < pool.length; i++) {
            int tag = in.readUnsignedByte();
            switch (tag) {
                case 1 -> pool[i] = in.readUTF();
                case 3, 4 -> in.skipBytes(4);
                case 5, 6 -> {
                    in.skipBytes(8);
                    i++;
                }
                case 7, 8, 16 -> pool[i] = new Pair(tag, in.readUnsignedShort(), 0);
                case 9, 10, 11, 12, 18 -> pool[i] = new Pair(tag, in.readUnsignedShort(), in.readUnsignedShort());
                default -> throw new IOException("an entry of the unknown sort " + tag);
            }
        }
        return pool;
    }

    private static String told(String owner, String name, String descriptor) {
        StringBuilder types = new StringBuilder();
        MethodType call = MethodType.fromMethodDescriptorString(descriptor, CopperStreet.class.getClassLoader());
        for (Class<?> type : call.parameterList()) {
            types.append(types.length() > 0 ? ", " : "").append(type.getSimpleName());
        }
        return owner.replaceAll("^java/lang/", "") + "." + name + "(" + types + ")";
    }
}
