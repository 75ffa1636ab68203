import java.io.IOException;
import java.lang.reflect.Constructor;
import java.lang.reflect.Field;
import java.lang.reflect.Method;
import java.lang.reflect.Modifier;
import java.nio.file.Files;
import java.nio.file.Path;
import java.util.Set;
import java.util.TreeSet;

/** The face is the document's, no more and no less; the source keeps to some rules of LANGUAGE.md. */
public final class FaceTest {
    private static final String[] METHODS = {
        "int aim(int)", "int gains(int,int,int)", "int cap(int)", "int lag(int)", "int fuel(int)",
        "int go(int)", "int pot(int,int,int)", "int put(int)", "int take(int)", "int potOf(int,int)",
        "int firedIn(int)", "int wouldCrack(int)", "int ranked(int)", "int degreesIn(int)",
        "int wanted()", "int settlesIn()", "int wouldOvershoot(int)", "int logged(int,int)",
        "int burnt()", "int burntAgain()", "int minutesWith(int)", "int append(int)", "int run()",
        "int tell()", "int tellPot(int)", "int character(int)", "int reason(boolean)",
        "int account(int)", "int isBalanced()", "double meanBurnt()", "float firedShare()",
        "int undo()", "int save()", "int restore()",
    };
    private static final String[] CONSTANTS = {"NONE", "BAD", "FULL", "REFUSED", "NOTHING"};
    private static final String[] FORBIDDEN = {
        "import ", "package ", "->", "::", "catch", "finally", "throw", "synchronized", "assert",
        "System.", "Exact(", "toString", "hashCode", "Object",
    };

    private static String signature(Method method) {
        StringBuilder text = new StringBuilder(method.getReturnType().getName());
        text.append(' ').append(method.getName()).append('(');
        String comma = "";
        for (Class<?> type : method.getParameterTypes()) {
            text.append(comma).append(type.getName());
            comma = ",";
        }
        return text.append(')').toString();
    }

    private static void testMethods(Due due) {
        Set<String> wanted = new TreeSet<>(Set.of(METHODS));
        Set<String> names = new TreeSet<>();
        for (String method : METHODS) {
            names.add(method.substring(method.indexOf(' ') + 1, method.indexOf('(')));
        }
        Set<String> found = new TreeSet<>();
        for (Method method : KilnKeeper.class.getDeclaredMethods()) {
            if (Modifier.isPrivate(method.getModifiers())) {
                due.is("private " + method.getName(), names.contains(method.getName()) ? 1 : 0, 0);
            } else {
                due.is(method.getName(), method.getModifiers(), Modifier.PUBLIC);
                found.add(signature(method));
            }
        }
        due.isText("the methods", found.toString(), wanted.toString());
    }

    private static void testRest(Due due) throws ReflectiveOperationException {
        due.is("the class", KilnKeeper.class.getModifiers(), Modifier.PUBLIC | Modifier.FINAL);
        Constructor<?>[] constructors = KilnKeeper.class.getDeclaredConstructors();
        due.is("constructors", constructors.length, 1);
        due.is("its modifiers", constructors[0].getModifiers(), Modifier.PUBLIC);
        due.is("its parameters", constructors[0].getParameterCount(), 0);
        Set<String> found = new TreeSet<>();
        for (Field field : KilnKeeper.class.getDeclaredFields()) {
            if (!Modifier.isPrivate(field.getModifiers())) {
                found.add(field.getName());
                due.is(field.getName(), field.getModifiers(),
                        Modifier.PUBLIC | Modifier.STATIC | Modifier.FINAL);
            }
        }
        due.isText("the constants", found.toString(), new TreeSet<>(Set.of(CONSTANTS)).toString());
        for (int place = 0; place < CONSTANTS.length; place++) {
            int value = KilnKeeper.class.getField(CONSTANTS[place]).getInt(null);
            due.is(CONSTANTS[place], value, -10001 - place);
        }
    }

    private static void testSource(Due due) throws IOException {
        String source = Files.readString(Path.of("src/main/java/KilnKeeper.java"));
        for (String word : FORBIDDEN) {
            due.is("the place of \"" + word + "\" in the source", source.indexOf(word), -1);
        }
        for (int index = 0; index < source.length(); index++) {
            if (source.charAt(index) > 126) {
                due.is("the source at " + index, source.charAt(index), ' ');
            }
        }
    }

    public static void main(String[] args) throws Exception {
        Due due = new Due();
        testMethods(due);
        testRest(due);
        testSource(due);
        due.end();
    }
}
