import java.io.IOException;
import java.lang.reflect.Method;
import java.lang.reflect.Modifier;
import java.nio.file.Files;
import java.nio.file.Path;
import java.util.regex.Matcher;
import java.util.regex.Pattern;

/** README.md: its calls answer what stands beside them, and it tells of every method. */
public final class ReadmeTest {
    private static final Pattern CALL = Pattern.compile("x\\.(\\w+)\\(([^)]*)\\); *// (-?\\d+|true|false)");

    private static final Check check = new Check("ReadmeTest");

    private ReadmeTest() {
    }

    public static void main(String[] args) throws IOException, ReflectiveOperationException {
        String text = Files.readString(Path.of("README.md"));
        calls(text);
        everyMethod(text);
        check.due("it tells how to run the tests", text.contains(".ci/run"), true);
        check.end();
    }

    private static void calls(String text) throws ReflectiveOperationException {
        BinTrees x = new BinTrees();
        int lines = 0;
        for (String line : text.split("\n")) {
            if (line.startsWith("x.")) {
                lines++;
                Matcher call = CALL.matcher(line);
                boolean fits = call.lookingAt();
                check.due("can be read: " + line, fits, true);
                check.due(line, fits && answer(x, call.group(1), call.group(2)).equals(call.group(3)), true);
            }
        }
        check.due("it has calls", lines > 0, true);
    }

    private static String answer(BinTrees x, String name, String arguments) throws ReflectiveOperationException {
        String[] told = arguments.split(", ");
        Object[] values = new Object[told.length];
        for (int i = 0; i < told.length; i++) {
            values[i] = told[i].matches("true|false") ? (Object) Boolean.valueOf(told[i]) : Integer.valueOf(told[i]);
        }
        for (Method m : BinTrees.class.getMethods()) {
            if (m.getName().equals(name) && m.getParameterCount() == values.length) {
                return String.valueOf(m.invoke(x, values));
            }
        }
        return "no such method";
    }

    private static void everyMethod(String text) {
        for (Method m : BinTrees.class.getDeclaredMethods()) {
            if (Modifier.isPublic(m.getModifiers())) {
                check.due("it tells of " + m.getName(), text.contains("| `" + m.getName() + "("), true);
            }
        }
    }
}
