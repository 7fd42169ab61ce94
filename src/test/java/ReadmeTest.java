import java.io.IOException;
import java.lang.reflect.Method;
import java.nio.file.Files;
import java.nio.file.Path;
import java.util.regex.Matcher;
import java.util.regex.Pattern;

/** The examples of README.md: each line of them is called, and its answer is the one that stands behind it. */
public final class ReadmeTest {
    private static final Pattern FRESH = Pattern.compile("SumHouse house = new SumHouse\\(\\);");
    private static final Pattern READ = Pattern.compile("read\\(house, \"([^\"]*)\", (\\d+)\\); +// (-?\\d+)(:.*)?");
    private static final Pattern TEXT = Pattern.compile("text\\(house, (\\d+)\\); +// (.*)");
    private static final Pattern CALL = Pattern.compile("house\\.(\\w+)\\(([^)]*)\\); +// (-?\\d+)(:.*)?");

    public static void main(String[] args) throws IOException, ReflectiveOperationException {
        SumHouse house = null;
        boolean inside = false;
        int calls = 0;
        for (String line : Files.readAllLines(Path.of("README.md"))) {
            if (line.startsWith("```")) {
                inside = line.equals("```java");
                house = null;
            } else if (inside && FRESH.matcher(line).matches()) {
                house = new SumHouse();
            } else if (inside && house != null) {
                example(house, line);
                calls++;
            }
        }
        Due.due("there are examples", calls >= 60 ? 1 : 0, 1);
        Due.end();
    }

    private static void example(SumHouse house, String line) throws ReflectiveOperationException {
        Matcher read = READ.matcher(line);
        Matcher text = TEXT.matcher(line);
        Matcher call = CALL.matcher(line);
        if (read.matches()) {
            Due.due(line, Due.read(house, read.group(1), Integer.parseInt(read.group(2))), Long.parseLong(read.group(3)));
        } else if (text.matches()) {
            Due.due(line, Due.text(house, Integer.parseInt(text.group(1))), text.group(2));
        } else if (call.matches()) {
            Due.due(line, answer(house, call.group(1), call.group(2)), Long.parseLong(call.group(3)));
        } else {
            Due.due("an example that is understood: " + line, 0, 1);
        }
    }

    private static int answer(SumHouse house, String name, String told) throws ReflectiveOperationException {
        String[] words = told.isEmpty() ? new String[0] : told.split(", ");
        for (Method method : SumHouse.class.getMethods()) {
            if (method.getName().equals(name) && method.getParameterCount() == words.length) {
                Object[] values = new Object[words.length];
                for (int i = 0; i < words.length; i++) {
                    long v = Long.decode(words[i].replace("L", ""));
                    values[i] = method.getParameterTypes()[i] == long.class ? (Object) v : (Object) (int) v;
                }
                return (int) method.invoke(house, values);
            }
        }
        throw new NoSuchMethodException(name);
    }
}
