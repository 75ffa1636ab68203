import java.io.DataInputStream;
import java.io.IOException;
import java.io.InputStream;
import java.lang.reflect.Field;
import java.lang.reflect.Method;
import java.lang.reflect.Modifier;
import java.util.Set;
import java.util.TreeSet;

/** What can be seen of the rules of ../shared/LANGUAGE.md in the compiled class. */
public final class LanguageTest {
    /** What the class may use of the library; some of Enum and clone() is used by javac alone. */
    private static final Set<String> LIBRARY = Set.of(
            "java/lang/Object.<init>()V", "java/lang/Enum.<init>(Ljava/lang/String;I)V",
            "java/lang/Enum.valueOf(Ljava/lang/Class;Ljava/lang/String;)Ljava/lang/Enum;",
            "java/lang/String.length()I", "java/lang/String.charAt(I)C",
            "java/lang/StringBuilder.<init>()V", "java/lang/StringBuilder.length()I",
            "java/lang/StringBuilder.charAt(I)C", "java/lang/StringBuilder.setLength(I)V",
            "java/lang/StringBuilder.append(C)Ljava/lang/StringBuilder;",
            "java/lang/StringBuilder.append(I)Ljava/lang/StringBuilder;",
            "java/lang/Math.abs(I)I", "java/lang/Math.floorDiv(II)I", "java/lang/Math.max(II)I",
            "java/lang/Math.min(II)I");
    private static final Set<String> OWN_TO_OBJECTS = Set.of("equals", "hashCode", "toString", "finalize");
    private static final Set<Class<?>> CONSTANT_TYPES = Set.of(int.class, long.class, boolean.class,
            char.class, String.class, int[].class, long[].class, char[].class, byte[].class);
    private static final int MOST_CLASSES = 12;
    private static final int MOST_FIELDS = 20;
    private static final int MOST_PARAMETERS = 7;

    private final Due due = new Due();

    /** The constants of a class file, of which the names of what it uses are made. */
    private static final class Pool {
        private final String[] texts;
        private final int[] firsts;
        private final int[] seconds;
        private final int[] tags;

        Pool(DataInputStream file) throws IOException {
            file.readLong();
            int size = file.readUnsignedShort();
            texts = new String[size];
            firsts = new int[size];
            seconds = new int[size];
            tags = new int[size];
            for (int index = 1; index < size; index++) {
                tags[index] = file.readUnsignedByte();
                read(file, index);
                if (tags[index] == 5 || tags[index] == 6) {
                    index++;
                }
            }
        }

        private void read(DataInputStream file, int index) throws IOException {
            switch (tags[index]) {
                case 1:
                    texts[index] = file.readUTF();
                    break;
                case 5, 6:
                    file.readLong();
                    break;
                case 7, 8, 16, 19, 20:
                    firsts[index] = file.readUnsignedShort();
                    break;
                case 15:
                    file.readUnsignedByte();
                    file.readUnsignedShort();
                    break;
                default:
                    firsts[index] = file.readUnsignedShort();
                    seconds[index] = file.readUnsignedShort();
                    break;
            }
        }

        /** The fields and methods of others that are used, each with its class and its type. */
        Set<String> used() {
            Set<String> used = new TreeSet<>();
            for (int index = 1; index < tags.length; index++) {
                if (tags[index] >= 9 && tags[index] <= 11) {
                    int nameAndType = seconds[index];
                    used.add(texts[firsts[firsts[index]]] + '.' + texts[firsts[nameAndType]]
                            + texts[seconds[nameAndType]]);
                } else if (tags[index] == 18) {
                    used.add("invokedynamic");
                }
            }
            return used;
        }
    }

    private void testLibrary(Class<?> own) throws IOException {
        try (InputStream stream = LanguageTest.class.getResourceAsStream(own.getName() + ".class");
                DataInputStream file = new DataInputStream(stream)) {
            for (String used : new Pool(file).used()) {
                boolean isOwn = used.startsWith("KilnKeeper") || used.startsWith("[LKilnKeeper");
                due.is(own.getName() + ": whether it may use " + used,
                        isOwn || LIBRARY.contains(used) ? 1 : 0, 1);
            }
        }
    }

    private void testFields(Class<?> own) {
        int fields = 0;
        for (Field field : own.getDeclaredFields()) {
            String name = own.getName() + "." + field.getName();
            if (Modifier.isStatic(field.getModifiers())) {
                due.is(name + ": final", Modifier.isFinal(field.getModifiers()) ? 1 : 0, 1);
                boolean isOfEnum = field.getType().isEnum()
                        || field.getType().isArray() && field.getType().getComponentType().isEnum();
                due.is(name + ": a type of constants",
                        isOfEnum || CONSTANT_TYPES.contains(field.getType()) ? 1 : 0, 1);
            } else {
                fields++;
            }
        }
        due.is(own.getName() + ": whether it has too many fields", fields > MOST_FIELDS ? 1 : 0, 0);
    }

    private void testMethods(Class<?> own) {
        for (Method method : own.getDeclaredMethods()) {
            String name = own.getName() + "." + method.getName();
            due.is(name + ": too many parameters",
                    method.getParameterCount() > MOST_PARAMETERS ? 1 : 0, 0);
            due.is(name + ": a method of every object", OWN_TO_OBJECTS.contains(method.getName()) ? 1 : 0, 0);
            due.is(name + ": synchronized or native",
                    method.getModifiers() & (Modifier.SYNCHRONIZED | Modifier.NATIVE), 0);
        }
    }

    /** No method but those of the face bears the name of one of these. */
    private void testNames(Class<?> own) {
        Set<String> face = new TreeSet<>();
        for (Method method : KilnKeeper.class.getDeclaredMethods()) {
            if (Modifier.isPublic(method.getModifiers())) {
                face.add(method.getName());
            }
        }
        for (Method method : own.getDeclaredMethods()) {
            boolean isOfFace = own == KilnKeeper.class && Modifier.isPublic(method.getModifiers());
            due.is(own.getName() + "." + method.getName() + ": a name of the face",
                    !isOfFace && face.contains(method.getName()) ? 1 : 0, 0);
        }
    }

    private void test(Class<?> own) throws IOException {
        testLibrary(own);
        testFields(own);
        testMethods(own);
        testNames(own);
    }

    public static void main(String[] args) throws IOException {
        LanguageTest test = new LanguageTest();
        Class<?>[] inside = KilnKeeper.class.getDeclaredClasses();
        test.due.is("whether there are too many classes", inside.length + 1 > MOST_CLASSES ? 1 : 0, 0);
        test.test(KilnKeeper.class);
        for (Class<?> own : inside) {
            int modifiers = own.getModifiers();
            test.due.is(own.getName() + ": static", Modifier.isStatic(modifiers) ? 1 : 0, 1);
            test.due.is(own.getName() + ": seen from outside",
                    modifiers & (Modifier.PUBLIC | Modifier.PROTECTED), 0);
            test.due.is(own.getName() + ": classes inside", own.getDeclaredClasses().length, 0);
            test.test(own);
        }
        test.due.end();
    }
}
