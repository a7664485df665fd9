import java.io.IOException;
import java.lang.reflect.Method;
import java.nio.file.Files;
import java.nio.file.Path;
import java.util.regex.Matcher;
import java.util.regex.Pattern;

/** The calls that README.md shows, each with its answer behind it, and that it shows every method. */
public final class ReadmeTest {
    private static final Pattern CALL = Pattern.compile("lines\\.(\\w+)\\((.*?)\\); +// (-?\\d+)\\b.*");

    private ReadmeTest() {
    }

    public static void main(String[] args) throws IOException, ReflectiveOperationException {
        TripleLines lines = new TripleLines();
        StringBuilder shown = new StringBuilder(" ");
        for (String row : Files.readAllLines(Path.of("README.md"))) {
            Matcher call = CALL.matcher(row);
            if (call.matches()) {
                shown.append(call.group(1)).append(' ');
                Check.due(row, answer(lines, call.group(1), call.group(2)), Integer.valueOf(call.group(3)));
            }
        }
        for (Method method : TripleLines.class.getDeclaredMethods()) {
            Check.due("README.md shows " + method.getName(), shown.indexOf(" " + method.getName() + " ") >= 0, true);
        }
        Check.end();
    }

    private static Object answer(TripleLines lines, String name, String list) throws ReflectiveOperationException {
        String[] texts = list.isEmpty() ? new String[0] : list.split(", ");
        for (Method method : TripleLines.class.getDeclaredMethods()) {
            if (method.getName().equals(name) && method.getParameterCount() == texts.length) {
                Object[] given = new Object[texts.length];
                for (int i = 0; i < texts.length; i++) {
                    long number = numberOf(texts[i]);
                    given[i] = method.getParameterTypes()[i] == long.class ? (Object) number : (Object) (int) number;
                }
                return method.invoke(lines, given);
            }
        }
        return "no such method";
    }

    private static long numberOf(String text) {
        return text.startsWith("'") ? text.charAt(1) : Long.decode(text.replace("L", ""));
    }
}
