import java.io.IOException;
import java.lang.reflect.Method;
import java.nio.file.Files;
import java.nio.file.Path;
import java.util.ArrayList;
import java.util.List;
import java.util.regex.Matcher;
import java.util.regex.Pattern;

/** What README.md shows of the class is so: each call in its blocks answers what stands behind it. */
public final class ReadmeTest {
    private static final String MAKING = "KilnKeeper keeper = new KilnKeeper();";
    private static final Pattern CALL = Pattern.compile("keeper\\.(\\w+)\\((.*)\\); +// (-?\\w+): (.+)");
    private static final Pattern TEXT = Pattern.compile("for \\(char sign : \"(.*)\"\\.toCharArray\\(\\)\\) \\{");
    private static final Pattern WRITTEN = Pattern.compile("the line \"(.*)\"");
    /** What stands in the loop of a text. */
    private static final List<String> LOOP = List.of("keeper.append(sign);", "}");

    private final Due due = new Due();
    private KilnKeeper keeper = null;
    private int calls = 0;

    private static List<String> linesOfBlocks() throws IOException {
        List<String> lines = new ArrayList<>();
        boolean isInBlock = false;
        for (String line : Files.readAllLines(Path.of("README.md"))) {
            if (line.startsWith("```")) {
                isInBlock = line.equals("```java");
            } else if (isInBlock) {
                lines.add(line.strip());
            }
        }
        return lines;
    }

    private void follow(String line) throws ReflectiveOperationException {
        Matcher call = CALL.matcher(line);
        Matcher text = TEXT.matcher(line);
        if (line.equals(MAKING)) {
            keeper = new KilnKeeper();
        } else if (text.matches()) {
            for (char sign : text.group(1).toCharArray()) {
                keeper.append(sign);
            }
        } else if (call.matches()) {
            calls++;
            due.is(line, answer(call.group(1), call.group(2)), shown(call.group(3)));
            Matcher written = WRITTEN.matcher(call.group(4));
            if (written.find()) {
                due.isText(line, Due.line(keeper), written.group(1));
            }
        } else {
            due.is("whether \"" + line + "\" can be followed", LOOP.contains(line) ? 1 : 0, 1);
        }
    }

    private int answer(String name, String arguments) throws ReflectiveOperationException {
        List<Object> given = new ArrayList<>();
        for (String argument : arguments.isEmpty() ? new String[0] : arguments.split(", ")) {
            given.add(argumentOf(argument));
        }
        for (Method method : KilnKeeper.class.getMethods()) {
            if (method.getName().equals(name) && method.getParameterCount() == given.size()) {
                return (Integer) method.invoke(keeper, given.toArray());
            }
        }
        throw new NoSuchMethodException(name);
    }

    private static Object argumentOf(String argument) {
        if (argument.equals("true") || argument.equals("false")) {
            return Boolean.valueOf(argument);
        }
        return argument.startsWith("'") ? argument.charAt(1) : Integer.parseInt(argument);
    }

    private static int shown(String answer) throws ReflectiveOperationException {
        boolean isCode = Character.isLetter(answer.charAt(0));
        return isCode ? KilnKeeper.class.getField(answer).getInt(null) : Integer.parseInt(answer);
    }

    public static void main(String[] args) throws Exception {
        ReadmeTest test = new ReadmeTest();
        for (String line : linesOfBlocks()) {
            test.follow(line);
        }
        test.due.is("whether there are calls in README.md", test.calls > 0 ? 1 : 0, 1);
        test.due.end();
    }
}
