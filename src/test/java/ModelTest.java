import java.lang.reflect.Method;
import java.util.ArrayList;
import java.util.Arrays;
import java.util.Comparator;
import java.util.HashMap;
import java.util.List;
import java.util.Map;
import java.util.SplittableRandom;

// Random runs of calls, each on a new object and on the model: every answer has to be the same.
// The seeds are fixed, so the same runs come each time.
public final class ModelTest {
    private static final int RUNS = 1500;
    private static final int CALLS = 512;
    private static final Checks CHECKS = new Checks("ModelTest");
    private static final Map<String, Method> FACE = new HashMap<>();
    private static final Map<String, Method> TWIN = new HashMap<>();
    private static final List<String> ASKING = new ArrayList<>(List.of("command", "fault", "spell", "measure", "vertex", "at", "nearest", "winding", "area", "bound", "simplified", "dash", "letter", "placed", "count"));

    private final SplittableRandom random;
    private final PathFlattener object = new PathFlattener();
    private final Model model = new Model();
    private final StringBuilder story = new StringBuilder();
    private final int reach;
    private int calls = 0;
    private boolean same = true;

    private ModelTest(long seed) {
        random = new SplittableRandom(seed);
        reach = new int[] {6, 60, 400, 4000}[random.nextInt(4)];
    }

    public static void main(String[] args) {
        for (Method m : PathFlattener.class.getDeclaredMethods()) {
            if (java.lang.reflect.Modifier.isPublic(m.getModifiers())) FACE.put(m.getName(), m);
        }
        for (Method m : Model.class.getDeclaredMethods()) {
            if (java.lang.reflect.Modifier.isPublic(m.getModifiers())) TWIN.put(m.getName(), m);
        }
        CHECKS.due("number of methods", FACE.size(), 36);
        CHECKS.holds("the model has the same methods", FACE.keySet().equals(TWIN.keySet()));
        for (int run = 0; run < RUNS; run++) new ModelTest(run).play();
        CHECKS.finish();
    }

    private void play() {
        buildPath();
        while (same && calls < CALLS) step();
    }

    private void step() {
        int kind = random.nextInt(100);
        if (kind < 4) {
            buildPath();
        } else if (kind < 6) {
            sayText();
        } else if (kind < 8) {
            writeLetters();
        } else if (kind < 10) {
            buildPattern();
        } else if (kind < 11) {
            manyPairs();
        } else if (kind < 70) {
            askAbout(ASKING.get(random.nextInt(ASKING.size())));
        } else {
            List<String> names = new ArrayList<>(FACE.keySet());
            names.sort(Comparator.naturalOrder());
            askAbout(names.get(random.nextInt(names.size())));
        }
    }

    private void buildPath() {
        if (random.nextBoolean()) {
            while (same && calls < CALLS && answer("count", 0) > 0) ask("removeLast");
        }
        if (random.nextInt(4) == 0) ask("setTolerance", random.nextBoolean() ? 1 : pick(1, 40));
        int commands = random.nextInt(random.nextInt(5) == 0 ? 30 : 10);
        for (int i = 0; i < commands; i++) {
            String[] kinds = {"move", "line", "line", "quad", "cubic", "cubic", "close"};
            askAbout(i == 0 ? "move" : kinds[random.nextInt(kinds.length)]);
        }
    }

    private void sayText() {
        if (random.nextInt(3) > 0) ask("wipe");
        StringBuilder text = new StringBuilder();
        int contours = 1 + random.nextInt(3);
        if (random.nextInt(12) == 0) contours = 30;
        for (int i = 0; i < contours && text.length() < 110; i++) {
            text.append("Mm".charAt(random.nextInt(2))).append(pairs(1));
            int commands = random.nextInt(contours == 30 ? 2 : 5);
            for (int j = 0; j < commands; j++) {
                int kind = random.nextInt(6);
                text.append("LQClqc".charAt(kind)).append(pairs(kind % 3 + 1));
            }
            if (random.nextBoolean()) text.append('Z');
        }
        if (random.nextInt(3) == 0) {
            int place = random.nextInt(text.length());
            String odd = "MmLlQqCcZz,-0123456789!~";
            char other = odd.charAt(random.nextInt(odd.length()));
            if (random.nextBoolean()) text.setCharAt(place, other);
            else if (random.nextBoolean()) text.deleteCharAt(place);
            else text.insert(place, other);
        }
        if (random.nextInt(8) == 0) text.setLength(random.nextInt(text.length() + 1));
        for (int i = 0; i < text.length(); i++) ask("say", text.charAt(i));
        ask("fault");
        if (random.nextInt(4) > 0) ask("load");
        ask("spell", -1);
    }

    private String pairs(int number) {
        String[] all = new String[number];
        for (int i = 0; i < number; i++) all[i] = numeral() + "," + numeral();
        return String.join(",", all);
    }

    private String numeral() {
        int size = random.nextInt(20) == 0 ? 4000 : Math.min(reach, 500);
        int value = random.nextInt(size + 1);
        return (random.nextInt(3) == 0 ? "-" : "") + value;
    }

    private void writeLetters() {
        ask("erase");
        int used = 1 + random.nextInt(4);
        int letters = random.nextInt(random.nextInt(6) == 0 ? 27 : 9);
        for (int i = 0; i < letters; i++) ask("write", random.nextInt(used));
        if (random.nextBoolean()) ask("setWidth", random.nextInt(used), 1 + random.nextInt(random.nextBoolean() ? 4000 : 60));
        if (random.nextBoolean()) ask("setKerning", random.nextInt(used), random.nextInt(used), pick(-500, 500));
        ask("arrange", random.nextInt(3) == 0 ? pick(-2000, 3000) : pick(-150, 150), random.nextInt(3) == 0 ? pick(-100, 1000) : pick(-100, 50), random.nextInt(4));
        for (int i = 0; i < 12; i++) askAbout(random.nextBoolean() ? "letter" : "placed");
    }

    private void buildPattern() {
        ask("clearDashes", random.nextBoolean() ? 0 : random.nextInt(3) == 0 ? pick(0, 100000) : pick(0, 500));
        int lengths = random.nextInt(6) == 0 ? random.nextInt(8) : 2 + 2 * random.nextInt(3);
        int most = new int[] {3, 40, 400, 100000}[random.nextInt(4)];
        for (int i = 0; i < lengths; i++) ask("addDash", 1 + random.nextInt(most));
        for (int i = 0; i < 6; i++) askAbout("dash");
    }

    private void manyPairs() {
        int pairs = random.nextInt(26);
        if (random.nextInt(3) > 0) pairs /= 8;
        for (int i = 0; i < pairs; i++) ask("setKerning", random.nextInt(5), random.nextInt(5), random.nextInt(6) == 0 ? 0 : pick(-500, 500));
    }

    private int pick(int low, int high) {
        return low + random.nextInt(high - low + 1);
    }

    private int edge(int low, int high) {
        int[] all = {low - 1, low, low + 1, high - 1, high, high + 1, 0, Integer.MIN_VALUE, Integer.MAX_VALUE};
        return all[random.nextInt(all.length)];
    }

    private int coordinate() {
        if (random.nextInt(60) == 0) return edge(-4000, 4000);
        return pick(-reach, reach);
    }

    // Often close to the first vertices, where it matters on which side of a line a point lies.
    private int coordinateNear(int what) {
        int contour = random.nextInt(3);
        int near = random.nextBoolean() ? answer("vertex", contour, random.nextInt(4), what) : Integer.MIN_VALUE;
        return Math.abs((long) near) <= 4000 ? near + pick(-1, 1) : coordinate();
    }

    private int mostly(int low, int high) {
        return random.nextInt(25) == 0 ? edge(low, high) : pick(low, high);
    }

    private int someContour() {
        return mostly(0, Math.max(0, answer("count", 1) - 1));
    }

    private void askAbout(String name) {
        switch (name) {
            case "move", "line", "quad", "cubic" -> ask(name, coordinates(FACE.get(name).getParameterCount()));
            case "command" -> ask(name, mostly(0, Math.max(0, answer("count", 0) - 1)), mostly(0, 8));
            case "setTolerance" -> ask(name, random.nextInt(3) == 0 ? edge(1, 1000) : mostly(1, 30));
            case "reverse" -> ask(name, someContour());
            case "transform" -> askTransform();
            case "say" -> ask(name, random.nextInt(3) == 0 ? edge(33, 126) : "MmLlQqCcZ,-019".charAt(random.nextInt(14)));
            case "spell" -> ask(name, mostly(-1, Math.max(0, answer("spell", -1))));
            case "measure" -> ask(name, random.nextInt(4) == 0 ? -1 : someContour(), mostly(0, 3));
            case "vertex" -> askVertex();
            case "at" -> askAt();
            case "nearest" -> ask(name, coordinateNear(0), coordinateNear(1), mostly(0, 3));
            case "winding" -> ask(name, coordinateNear(0), coordinateNear(1));
            case "area" -> ask(name, random.nextInt(6) == 0 ? -1 : someContour());
            case "bound" -> ask(name, random.nextInt(4) == 0 ? -1 : someContour(), mostly(0, 3));
            case "simplified" -> askSimplified();
            case "addDash" -> ask(name, random.nextInt(4) == 0 ? edge(1, 100000) : pick(1, 300));
            case "clearDashes" -> ask(name, random.nextInt(4) == 0 ? edge(0, 100000) : pick(0, 300));
            case "dash" -> ask(name, someContour(), random.nextInt(3) == 0 ? mostly(-1, 1000) : mostly(-1, 8), mostly(0, 1));
            case "setWidth" -> ask(name, mostly(0, 25), mostly(1, 4000));
            case "setKerning" -> ask(name, mostly(0, 25), mostly(0, 25), mostly(-500, 500));
            case "write" -> ask(name, mostly(0, 25));
            case "arrange" -> ask(name, mostly(-20000, 100000), mostly(-100, 1000), mostly(0, 3));
            case "letter" -> ask(name, someContour(), mostly(0, Math.max(0, answer("count", 4) - 1)), mostly(0, 4));
            case "placed" -> ask(name, someContour(), mostly(0, 1));
            case "count" -> ask(name, mostly(0, 6));
            case "save", "restore" -> ask(name, mostly(0, 1));
            default -> ask(name);
        }
    }

    private int[] coordinates(int number) {
        int[] all = new int[number];
        for (int i = 0; i < number; i++) all[i] = coordinate();
        return all;
    }

    private void askTransform() {
        if (random.nextInt(3) == 0) {
            ask("transform", mostly(-1024, 1024), mostly(-1024, 1024), mostly(-1024, 1024), mostly(-1024, 1024), mostly(-8000, 8000), mostly(-8000, 8000));
        } else {
            ask("transform", pick(-300, 300), pick(-300, 300), pick(-300, 300), pick(-300, 300), pick(-reach, reach), pick(-reach, reach));
        }
    }

    private void askVertex() {
        int contour = someContour();
        ask("vertex", contour, mostly(0, Math.max(1, answer("measure", contour, 0)) - 1), mostly(0, 2));
    }

    private void askAt() {
        int contour = someContour();
        ask("at", contour, mostly(0, Math.max(0, answer("measure", contour, 2))), mostly(0, 4));
    }

    private void askSimplified() {
        int contour = someContour();
        int limit = random.nextInt(3) == 0 ? edge(0, 1000) : pick(0, random.nextBoolean() ? 3 : 60);
        int kept = answer("simplified", contour, limit, -1);
        ask("simplified", contour, limit, random.nextInt(3) == 0 ? -1 : mostly(0, Math.max(0, kept - 1)));
    }

    // Asks the object alone for something that helps to choose arguments; it counts as a call.
    private int answer(String name, int... arguments) {
        return (int) ask(name, arguments);
    }

    private long ask(String name, int... arguments) {
        if (!same || calls >= CALLS) return 0;
        calls++;
        Object[] boxed = Arrays.stream(arguments).boxed().toArray();
        try {
            long got = ((Number) FACE.get(name).invoke(object, boxed)).longValue();
            long want = ((Number) TWIN.get(name).invoke(model, boxed)).longValue();
            String call = name + Arrays.toString(arguments);
            story.append(call).append(" = ").append(want).append("; ");
            CHECKS.due(call, got, want);
            if (got != want) {
                same = false;
                System.out.println("the run: " + story);
            }
            return got;
        } catch (ReflectiveOperationException e) {
            throw new IllegalStateException("after " + story + name + Arrays.toString(arguments), e);
        }
    }
}
