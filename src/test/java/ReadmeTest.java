import java.io.IOException;
import java.lang.reflect.Field;
import java.lang.reflect.Method;
import java.lang.reflect.Modifier;
import java.nio.file.Files;
import java.nio.file.Path;
import java.util.Arrays;
import java.util.Map;
import java.util.TreeMap;
import java.util.regex.Matcher;
import java.util.regex.Pattern;

// What README.md says about the class: its calls with their answers, its constants and their values.
public final class ReadmeTest {
    private static final Checks C = new Checks("ReadmeTest");
    private static final String NEW_OBJECT = "PathFlattener paths = new PathFlattener();";
    private static final Pattern CALL = Pattern.compile("paths\\.(\\w+)\\((.*)\\); +// (-?\\w+).*");
    private static final Pattern ROW = Pattern.compile("\\| `(\\w+)` \\| (-?\\d+) \\| .*");

    private static final Map<String, Long> constants = new TreeMap<>();
    private static final Map<String, Method> methods = new TreeMap<>();
    private static PathFlattener object = new PathFlattener();

    public static void main(String[] args) throws IOException, ReflectiveOperationException {
        readFace();
        String readme = Files.readString(Path.of("README.md"));
        for (String name : methods.keySet()) C.holds("README names " + name, readme.contains("`" + name + "`"));
        for (String line : readme.split("\n")) {
            if (line.startsWith("paths.") || line.startsWith("PathFlattener ")) playLine(line);
        }
        Map<String, Long> told = new TreeMap<>();
        for (String line : readme.split("\n")) {
            Matcher m = ROW.matcher(line);
            if (m.matches()) told.put(m.group(1), Long.parseLong(m.group(2)));
        }
        C.holds("README tells the constants " + told + ", the class has " + constants, told.equals(constants));
        C.finish();
    }

    private static void readFace() throws IllegalAccessException {
        for (Field f : PathFlattener.class.getDeclaredFields()) {
            if (Modifier.isPublic(f.getModifiers())) constants.put(f.getName(), ((Number) f.get(null)).longValue());
        }
        for (Method m : PathFlattener.class.getDeclaredMethods()) {
            if (Modifier.isPublic(m.getModifiers())) methods.put(m.getName(), m);
        }
    }

    private static void playLine(String line) throws ReflectiveOperationException {
        if (line.equals(NEW_OBJECT)) {
            object = new PathFlattener();
            return;
        }
        Matcher m = CALL.matcher(line);
        if (!m.matches()) throw new IllegalArgumentException("no call with its answer: " + line);
        Object[] arguments = Arrays.stream(m.group(2).split(", ")).filter(one -> !one.isEmpty()).map(ReadmeTest::number).map(Long::intValue).toArray();
        long got = ((Number) methods.get(m.group(1)).invoke(object, arguments)).longValue();
        C.due(line, got, number(m.group(3)));
    }

    // A number, a character in quotes, or a constant's name.
    private static long number(String text) {
        String name = text.replace("PathFlattener.", "");
        if (constants.containsKey(name)) return constants.get(name);
        return text.startsWith("'") ? text.charAt(1) : Long.parseLong(text);
    }
}
