import java.lang.reflect.Method;
import java.lang.reflect.Modifier;
import java.util.Arrays;
import java.util.HashMap;
import java.util.Map;
import java.util.regex.Matcher;
import java.util.regex.Pattern;

// What the tests of single sentences have in common. A test begins with the sentence that it
// tests, quoted from the document; its calls are written as the document's examples write them:
// "move(0,0) = 1; line(30,40) = 2; removeLast()".
abstract class Edges {
    static final int NO_SUCH = -1000001, BAD_VALUE = -1000002, BAD_TEXT = -1000003, TOO_MANY = -1000004, NOT_POSSIBLE = -1000005, NONE = -1000006;
    static final int MOST_CALLS = 512;
    static final Checks C = new Checks("EdgesTest");
    static final Book BOOK = new Book();

    private static final Pattern CALL = Pattern.compile("\\s*(\\w+)\\(([^)]*)\\)(?:\\s*=\\s*(-?\\w+))?\\s*");
    private static final Map<String, Method> FACE = new HashMap<>();
    private static final Map<String, Long> NAMES = Map.of(
        "NO_SUCH", (long) NO_SUCH, "BAD_VALUE", (long) BAD_VALUE, "BAD_TEXT", (long) BAD_TEXT,
        "TOO_MANY", (long) TOO_MANY, "NOT_POSSIBLE", (long) NOT_POSSIBLE, "NONE", (long) NONE,
        "GONE", -1000000000000000000L, "MIN", (long) Integer.MIN_VALUE, "MAX", (long) Integer.MAX_VALUE);

    private static String section = "";
    private static String sentence = "";
    private static int checksBefore = 0;
    private static PathFlattener object = new PathFlattener();
    private static int calls = 0;

    static {
        for (Method m : PathFlattener.class.getDeclaredMethods()) {
            if (Modifier.isPublic(m.getModifiers())) FACE.put(m.getName(), m);
        }
    }

    // ---- sentences

    static void section(String title) {
        endSentence();
        section = title;
        sentence = "";
    }

    static void promise(int number) {
        section("Promise " + number);
    }

    // Begins a test of the words, which the section has to say; it begins with a new object.
    static void says(String... words) {
        endSentence();
        sentence = words[0];
        checksBefore = C.made();
        for (String some : words) {
            if (!BOOK.quote(section, some)) C.due(section + " does not say \"" + some + "\"", 0, 1);
        }
        fresh();
    }

    static void endSentence() {
        if (!sentence.isEmpty() && C.made() == checksBefore) C.due(section + " \"" + sentence + "\": checks", 0, 1);
        sentence = "";
    }

    // ---- calls

    static void fresh() {
        object = new PathFlattener();
        calls = 0;
    }

    static int callsMade() {
        return calls;
    }

    // Lets the next calls go to another object for a while.
    static PathFlattener swap(PathFlattener other) {
        PathFlattener before = object;
        object = other;
        calls = 0;
        return before;
    }

    static long ask(String name, int... arguments) {
        Method method = FACE.get(name);
        if (method == null) throw new IllegalArgumentException("no method " + name);
        calls++;
        if (calls > MOST_CALLS) throw new IllegalStateException("what call " + calls + " answers is free: " + section + " " + sentence);
        try {
            return ((Number) method.invoke(object, Arrays.stream(arguments).boxed().toArray())).longValue();
        } catch (ReflectiveOperationException e) {
            throw new IllegalStateException(section + " \"" + sentence + "\": " + name + Arrays.toString(arguments), e);
        }
    }

    static void due(long want, String name, int... arguments) {
        C.due(place() + name + Arrays.toString(arguments), ask(name, arguments), want);
    }

    static void holds(String claim, boolean isTrue) {
        C.holds(place() + claim, isTrue);
    }

    private static String place() {
        return section + " \"" + sentence + "\": ";
    }

    // Makes the calls of a script, and compares those behind which a number stands.
    static void play(String script) {
        for (String one : script.split(";")) {
            Matcher m = CALL.matcher(one);
            if (!m.matches()) throw new IllegalArgumentException("no call: " + one);
            int[] arguments = arguments(m.group(2));
            if (m.group(3) == null) {
                ask(m.group(1), arguments);
            } else {
                due(number(m.group(3)), m.group(1), arguments);
            }
        }
    }

    // The answer to one call.
    static long answer(String call) {
        Matcher m = CALL.matcher(call);
        if (!m.matches()) throw new IllegalArgumentException("no call: " + call);
        return ask(m.group(1), arguments(m.group(2)));
    }

    private static int[] arguments(String list) {
        if (list.isBlank()) return new int[0];
        return Arrays.stream(list.split(",")).mapToInt(one -> (int) number(one.strip())).toArray();
    }

    private static long number(String text) {
        Long named = NAMES.get(text);
        return named != null ? named : Long.parseLong(text);
    }

    // ---- texts and paths

    static void say(String text) {
        for (char c : text.toCharArray()) ask("say", c);
    }

    static void dueFault(String text, long want) {
        ask("wipe");
        say(text);
        C.due(place() + "fault of " + text, ask("fault"), want);
    }

    static void dueCorrect(String... texts) {
        for (String text : texts) {
            fresh();
            dueFault(text, NONE);
        }
    }

    // The fault of each text is its last character.
    static void dueWrongAtEnd(String... texts) {
        for (String text : texts) {
            fresh();
            dueFault(text, text.length() - 1);
        }
    }

    // Each text could go on to a correct one.
    static void dueCut(String... texts) {
        for (String text : texts) {
            fresh();
            dueFault(text, text.length());
        }
    }

    static void dueLoad(String text, long want) {
        ask("wipe");
        say(text);
        C.due(place() + "load of " + text, ask("load"), want);
    }

    // A new object with the path that a text tells; it has to be one.
    static void path(String text) {
        fresh();
        load(text);
    }

    // The path becomes the one that a text tells; it has to be one.
    static void load(String text) {
        ask("wipe");
        say(text);
        long commands = ask("load");
        if (commands < 0) throw new IllegalArgumentException(text + " is no path: " + commands);
    }

    static String spelled() {
        StringBuilder text = new StringBuilder();
        long length = ask("spell", -1);
        for (int i = 0; i < length; i++) text.append((char) ask("spell", i));
        return text.toString();
    }

    static void duePath(String want) {
        String got = spelled();
        holds("the path is " + got + ", due is " + want, got.equals(want));
    }

    // x and y of all vertices of a contour.
    static void dueVertices(int contour, int... numbers) {
        due(numbers.length / 2, "measure", contour, 0);
        for (int i = 0; i < numbers.length; i++) due(numbers[i], "vertex", contour, i / 2, i % 2);
    }

    // ---- the many that fill an object up

    static void fill(int commands) {
        while (ask("count", 0) < commands) ask(ask("count", 0) == 0 ? "move" : "line", 1, 2);
    }

    static void fillPad(int length) {
        for (int i = 0; i < length; i++) ask("say", 'M');
    }

    static void fillPattern(int lengths) {
        for (int i = 0; i < lengths; i++) ask("addDash", 10);
    }

    static void fillPairs(int pairs) {
        for (int i = 0; i < pairs; i++) ask("setKerning", i, 25, 1 + i);
    }

    // The letters a, b, c and so on.
    static void write(int letters) {
        for (int i = 0; i < letters; i++) ask("write", i);
    }

    static void dueCenters(int contour, int... centers) {
        for (int i = 0; i < centers.length; i++) due(centers[i], "letter", contour, i, 1);
    }

    static void dueHomes(int contour, int... homes) {
        for (int i = 0; i < homes.length; i++) due(homes[i], "letter", contour, i, 0);
    }

    // Begins and ends of all dashes of a contour.
    static void dueDashes(int contour, int... edges) {
        due(edges.length / 2, "dash", contour, -1, 0);
        due(edges.length / 2, "dash", contour, -1, 1);
        for (int i = 0; i < edges.length; i++) due(edges[i], "dash", contour, i / 2, i % 2);
        due(NONE, "dash", contour, edges.length / 2, 0);
        due(NONE, "dash", contour, edges.length / 2, 1);
    }

    static void dueKept(int contour, int limit, int... kept) {
        due(kept.length, "simplified", contour, limit, -1);
        for (int i = 0; i < kept.length; i++) due(kept[i], "simplified", contour, limit, i);
        due(NONE, "simplified", contour, limit, kept.length);
    }
}
