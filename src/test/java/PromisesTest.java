// For each promise of the document: ordinary calls, the edges that it names, and wrong arguments.
// The answers that are due are worked out by hand from the document's words.
public final class PromisesTest {
    private static final int NO_SUCH = -1000001, BAD_VALUE = -1000002, BAD_TEXT = -1000003, TOO_MANY = -1000004, NOT_POSSIBLE = -1000005, NONE = -1000006;
    private static final int LEAST = Integer.MIN_VALUE, MOST = Integer.MAX_VALUE;
    private static final Checks C = new Checks("PromisesTest");

    private static PathFlattener x = new PathFlattener();
    private static int promise = 0;

    public static void main(String[] args) {
        constants();
        p1NewObject();
        p2Move();
        p3Line();
        p4Quad();
        p5Cubic();
        p6Close();
        p7RemoveLast();
        p8Command();
        p9SetTolerance();
        p10Reverse();
        p11Transform();
        p12Say();
        p13Wipe();
        p14Fault();
        p15Load();
        p16Spell();
        p17Measure();
        p18Vertex();
        p19At();
        p20Nearest();
        p21Winding();
        p22Area();
        p23Bound();
        p24Simplified();
        p25AddDash();
        p26ClearDashes();
        p27Dash();
        p28SetWidth();
        p29SetKerning();
        p30Write();
        p31Erase();
        p32Arrange();
        p33Letter();
        p34Placed();
        p35Count();
        p36Save();
        p37Restore();
        flattening();
        independence();
        C.finish();
    }

    private static void fresh(int number) {
        promise = number;
        x = new PathFlattener();
    }

    private static void due(String call, long got, long want) {
        C.due("promise " + promise + ": " + call, got, want);
    }

    // ---- helpers

    private static void say(String text) {
        for (char c : text.toCharArray()) x.say(c);
    }

    // A new object for each text: what an object answers behind its 512th call is free.
    private static int faultOf(String text) {
        fresh(promise);
        say(text);
        return x.fault();
    }

    // The path becomes the one that a text tells; the number of its commands.
    private static int path(String text) {
        x.wipe();
        say(text);
        return x.load();
    }

    private static String spelled() {
        StringBuilder text = new StringBuilder();
        int length = x.spell(-1);
        for (int i = 0; i < length; i++) text.append((char) x.spell(i));
        return text.toString();
    }

    private static void duePath(String call, String want) {
        C.holds("promise " + promise + ": " + call + " leaves " + spelled() + ", due is " + want, spelled().equals(want));
    }

    private static void dueVertices(int contour, int... numbers) {
        due("number of vertices", x.measure(contour, 0), numbers.length / 2);
        for (int i = 0; i < numbers.length; i++) {
            due("vertex " + i / 2, x.vertex(contour, i / 2, i % 2), numbers[i]);
        }
    }

    private static void fillWithMoves() {
        while (x.count(0) < 24) x.move(1, 2);
    }

    private static void letters(int number) {
        for (int i = 0; i < number; i++) x.write(i);
    }

    // ---- promises

    private static void constants() {
        due("LIMIT", PathFlattener.LIMIT, -1000000);
        due("NO_SUCH", PathFlattener.NO_SUCH, NO_SUCH);
        due("BAD_VALUE", PathFlattener.BAD_VALUE, BAD_VALUE);
        due("BAD_TEXT", PathFlattener.BAD_TEXT, BAD_TEXT);
        due("TOO_MANY", PathFlattener.TOO_MANY, TOO_MANY);
        due("NOT_POSSIBLE", PathFlattener.NOT_POSSIBLE, NOT_POSSIBLE);
        due("NONE", PathFlattener.NONE, NONE);
        due("GONE", PathFlattener.GONE, -1000000000000000000L);
        int[] kinds = {PathFlattener.MOVE, PathFlattener.LINE, PathFlattener.QUAD, PathFlattener.CUBIC, PathFlattener.CLOSE};
        for (int i = 0; i < 5; i++) due("kind " + i, kinds[i], i);
        int[] modes = {PathFlattener.HIDE, PathFlattener.SQUEEZE, PathFlattener.ROUND, PathFlattener.MOVE_ON};
        for (int i = 0; i < 4; i++) due("mode " + i, modes[i], i);
    }

    private static void p1NewObject() {
        fresh(1);
        int[] counts = {0, 0, 4, 0, 0, 0, 0};
        for (int i = 0; i < counts.length; i++) due("count(" + i + ")", x.count(i), counts[i]);
        due("spell(-1)", x.spell(-1), 0);
        due("command(0, 0)", x.command(0, 0), NO_SUCH);
        due("measure(-1, 2)", x.measure(-1, 2), 0);
        due("restore(0)", x.restore(0), NOT_POSSIBLE);
        due("restore(1)", x.restore(1), NOT_POSSIBLE);
        due("setWidth(25, 1)", x.setWidth(25, 1), 160);
    }

    private static void p2Move() {
        fresh(2);
        due("move(-4000, 4000)", x.move(-4000, 4000), 1);
        due("move(4000, -4000)", x.move(4000, -4000), 2);
        due("count(1)", x.count(1), 2);
        due("command(1, 3)", x.command(1, 3), 4000);
        due("command(1, 4)", x.command(1, 4), -4000);
        int[][] wrong = {{4001, 0}, {-4001, 0}, {0, 4001}, {0, -4001}, {LEAST, 0}, {0, MOST}};
        for (int[] w : wrong) due("move(" + w[0] + ", " + w[1] + ")", x.move(w[0], w[1]), BAD_VALUE);
        x.close();
        due("move behind a CLOSE", x.move(0, 0), 4);
        fillWithMoves();
        due("the 25th", x.move(0, 0), TOO_MANY);
        due("the 25th, with a bad value", x.move(0, 4001), BAD_VALUE);
        due("count(0)", x.count(0), 24);
    }

    private static void p3Line() {
        fresh(3);
        due("without a MOVE", x.line(0, 0), NOT_POSSIBLE);
        due("a bad value without a MOVE", x.line(0, 4001), BAD_VALUE);
        x.move(1, 1);
        due("line(-4000, 4000)", x.line(-4000, 4000), 2);
        due("its kind", x.command(1, 0), 1);
        due("its x", x.command(1, 3), -4000);
        due("its y", x.command(1, 4), 4000);
        due("line(-4001, 0)", x.line(-4001, 0), BAD_VALUE);
        due("line(0, -4001)", x.line(0, -4001), BAD_VALUE);
        due("line(4001, 0)", x.line(4001, 0), BAD_VALUE);
        x.close();
        due("behind a CLOSE", x.line(0, 0), NOT_POSSIBLE);
        fillWithMoves();
        due("the 25th", x.line(0, 0), TOO_MANY);
        x.removeLast();
        x.close();
        due("the 25th, behind a CLOSE", x.line(0, 0), NOT_POSSIBLE);
    }

    private static void p4Quad() {
        fresh(4);
        due("without a MOVE", x.quad(0, 0, 0, 0), NOT_POSSIBLE);
        x.move(0, 0);
        due("quad(1, 2, 3, 4)", x.quad(1, 2, 3, 4), 2);
        int[] numbers = {2, 0, NONE, 3, 4, 1, 2, NONE, NONE};
        for (int i = 0; i < 9; i++) if (i != 2) due("command(1, " + i + ")", x.command(1, i), numbers[i]);
        due("a bad cx", x.quad(4001, 0, 0, 0), BAD_VALUE);
        due("a bad cy", x.quad(0, -4001, 0, 0), BAD_VALUE);
        due("a bad x", x.quad(0, 0, LEAST, 0), BAD_VALUE);
        due("a bad y", x.quad(0, 0, 0, MOST), BAD_VALUE);
        due("on the edge", x.quad(4000, -4000, -4000, 4000), 3);
        x.close();
        due("behind a CLOSE", x.quad(0, 0, 0, 0), NOT_POSSIBLE);
        fillWithMoves();
        due("the 25th", x.quad(0, 0, 0, 0), TOO_MANY);
    }

    private static void p5Cubic() {
        fresh(5);
        due("without a MOVE", x.cubic(0, 0, 0, 0, 0, 0), NOT_POSSIBLE);
        x.move(0, 0);
        due("cubic(1, 2, 3, 4, 5, 6)", x.cubic(1, 2, 3, 4, 5, 6), 2);
        int[] numbers = {3, 0, 0, 5, 6, 1, 2, 3, 4};
        for (int i = 0; i < 9; i++) if (i != 2) due("command(1, " + i + ")", x.command(1, i), numbers[i]);
        for (int i = 0; i < 6; i++) {
            int[] n = new int[6];
            n[i] = i % 2 == 0 ? 4001 : -4001;
            due("a bad number " + i, x.cubic(n[0], n[1], n[2], n[3], n[4], n[5]), BAD_VALUE);
            n[i] = i % 2 == 0 ? 4000 : -4000;
            due("a number on the edge " + i, x.cubic(n[0], n[1], n[2], n[3], n[4], n[5]), 3 + i);
        }
        x.close();
        due("behind a CLOSE", x.cubic(0, 0, 0, 0, 0, 0), NOT_POSSIBLE);
        fillWithMoves();
        due("the 25th", x.cubic(0, 0, 0, 0, 0, 0), TOO_MANY);
    }

    private static void p6Close() {
        fresh(6);
        due("without a command", x.close(), NOT_POSSIBLE);
        x.move(1, 1);
        x.line(2, 2);
        x.move(5, 6);
        due("close()", x.close(), 4);
        due("its kind", x.command(3, 0), 4);
        due("its x is that of its contour's MOVE", x.command(3, 3), 5);
        due("close() behind a CLOSE", x.close(), NOT_POSSIBLE);
        due("the first contour stays open", x.measure(0, 3), 0);
        fillWithMoves();
        due("the 25th", x.close(), TOO_MANY);
    }

    private static void p7RemoveLast() {
        fresh(7);
        due("without a command", x.removeLast(), NOT_POSSIBLE);
        path("M0,0L3,4ZM1,1");
        due("of a MOVE", x.removeLast(), 3);
        due("contours", x.count(1), 1);
        due("of a CLOSE", x.removeLast(), 2);
        due("open again", x.measure(0, 3), 0);
        due("length", x.measure(0, 2), 80);
        due("line() is possible again", x.line(3, 5), 3);
        for (int left = 2; left >= 0; left--) due("removeLast()", x.removeLast(), left);
        due("without a command again", x.removeLast(), NOT_POSSIBLE);
        due("line() without a MOVE", x.line(0, 0), NOT_POSSIBLE);
    }

    private static void p8Command() {
        fresh(8);
        path("M1,2L31,42C1,0,2,0,3,0ZM7,8Q9,9,10,11");
        due("no command -1", x.command(-1, 0), NO_SUCH);
        due("no command 6", x.command(6, 0), NO_SUCH);
        due("no such command before a bad what", x.command(6, 9), NO_SUCH);
        due("what -1", x.command(0, -1), BAD_VALUE);
        due("what 9", x.command(0, 9), BAD_VALUE);
        int[] kinds = {0, 1, 3, 4, 0, 2};
        int[] contours = {0, 0, 0, 0, 1, 1};
        int[] endX = {1, 31, 3, 1, 7, 10};
        int[] endY = {2, 42, 0, 2, 8, 11};
        for (int i = 0; i < 6; i++) {
            due("kind of " + i, x.command(i, 0), kinds[i]);
            due("contour of " + i, x.command(i, 1), contours[i]);
            due("x of " + i, x.command(i, 3), endX[i]);
            due("y of " + i, x.command(i, 4), endY[i]);
        }
        for (int what = 5; what <= 8; what++) {
            due("a MOVE's control", x.command(0, what), NONE);
            due("a LINE's control", x.command(1, what), NONE);
            due("a CLOSE's control", x.command(3, what), NONE);
        }
        due("a QUAD's control x", x.command(5, 5), 9);
        due("a QUAD's control y", x.command(5, 6), 9);
        due("a QUAD's second control", x.command(5, 7), NONE);
        due("a CUBIC's second control x", x.command(2, 7), 2);
        due("length of a MOVE", x.command(0, 2), 0);
        due("length of the second MOVE", x.command(4, 2), 0);
        due("length of the LINE", x.command(1, 2), 800);
        due("length of the CLOSE, root of 256 * 8", x.command(3, 2), 45);
        int sum = x.command(1, 2) + x.command(2, 2) + x.command(3, 2);
        due("all lengths", sum, x.measure(0, 2));
        path("M0,0L3,4L0,0Z");
        due("length of a CLOSE that adds nothing", x.command(3, 2), 0);
    }

    private static void p9SetTolerance() {
        fresh(9);
        due("setTolerance(1)", x.setTolerance(1), 4);
        due("setTolerance(1000)", x.setTolerance(1000), 1);
        due("setTolerance(0)", x.setTolerance(0), BAD_VALUE);
        due("setTolerance(1001)", x.setTolerance(1001), BAD_VALUE);
        due("setTolerance(-1)", x.setTolerance(-1), BAD_VALUE);
        due("count(2)", x.count(2), 1000);
        // |0 - 2 * 8 + 0| is 16: flat from the tolerance 4 on.
        path("M0,0Q8,0,0,0");
        x.setTolerance(4);
        due("flat", x.measure(0, 1), 0);
        x.setTolerance(3);
        due("not flat: to (4, 0) and back", x.measure(0, 1), 2);
    }

    private static void p10Reverse() {
        fresh(10);
        due("no contour", x.reverse(0), NO_SUCH);
        path("M0,0L1,2Q3,4,5,6C7,8,9,10,11,12M50,50L60,60ZM1,1ZM9,9L8,8");
        due("no contour -1", x.reverse(-1), NO_SUCH);
        due("no contour 4", x.reverse(4), NO_SUCH);
        due("an open one", x.reverse(0), 4);
        duePath("reverse(0)", "M11,12C9,10,7,8,5,6Q3,4,1,2L0,0M50,50L60,60ZM1,1ZM9,9L8,8");
        due("a closed one", x.reverse(1), 3);
        due("a point", x.reverse(2), 2);
        due("the last one", x.reverse(3), 2);
        duePath("reverse(1 to 3)", "M11,12C9,10,7,8,5,6Q3,4,1,2L0,0M60,60L50,50ZM1,1ZM8,8L9,9");
        due("the CLOSE goes to the new begin", x.command(6, 3), 60);
        due("the vertices are those of the new begin", x.vertex(1, 0, 0), 60);
        x.reverse(0);
        due("twice", x.reverse(1), 3);
        duePath("reverse twice", "M0,0L1,2Q3,4,5,6C7,8,9,10,11,12M50,50L60,60ZM1,1ZM8,8L9,9");
    }

    private static void p11Transform() {
        fresh(11);
        due("of an empty path", x.transform(1024, -1024, 1024, -1024, 8000, -8000), 0);
        path("M1,0L0,-1C-3,5,100,-100,7,-7Z");
        due("halves, rounded down", x.transform(128, 0, 0, 128, 0, 0), 4);
        duePath("halves", "M0,0L0,-1C-2,2,50,-50,3,-4Z");
        due("a turn and a shift", x.transform(0, 256, -256, 0, 10, 20), 4);
        duePath("a turn: x becomes -y + 10, y becomes x + 20", "M10,20L11,20C8,18,60,70,14,23Z");
        due("the CLOSE comes along", x.command(3, 4), 20);
        due("out of range", x.transform(256, 0, 0, 256, 3950, 0), NOT_POSSIBLE);
        due("a control point out of range", x.transform(256, 0, 0, 256, 0, 3931), NOT_POSSIBLE);
        duePath("NOT_POSSIBLE", "M10,20L11,20C8,18,60,70,14,23Z");
        due("just in range", x.transform(256, 0, 0, 256, 3940, 3930), 4);
        for (int i = 0; i < 6; i++) {
            int most = i < 4 ? 1024 : 8000;
            int[] n = new int[6];
            n[i] = most + 1;
            due("a bad argument " + i, x.transform(n[0], n[1], n[2], n[3], n[4], n[5]), BAD_VALUE);
            n[i] = -most - 1;
            due("a bad argument " + i, x.transform(n[0], n[1], n[2], n[3], n[4], n[5]), BAD_VALUE);
        }
        path("M0,0");
        due("only the point of the MOVE counts", x.transform(1024, 1024, 1024, 1024, 4000, -4000), 1);
        duePath("transform", "M4000,-4000");
        due("beyond by one", x.transform(256, 0, 0, 256, 1, 0), NOT_POSSIBLE);
        due("beyond by one below", x.transform(256, 0, 0, 256, 0, -1), NOT_POSSIBLE);
    }

    private static void p12Say() {
        fresh(12);
        due("say(33)", x.say(33), 1);
        due("say(126)", x.say(126), 2);
        due("say(32)", x.say(32), BAD_VALUE);
        due("say(127)", x.say(127), BAD_VALUE);
        due("say(-1)", x.say(-1), BAD_VALUE);
        for (int i = 3; i <= 120; i++) due("say", x.say(77), i);
        due("the 121st", x.say(77), TOO_MANY);
        due("the 121st, a bad value", x.say(127), BAD_VALUE);
        due("count(3)", x.count(3), 120);
    }

    private static void p13Wipe() {
        fresh(13);
        due("an empty pad", x.wipe(), 0);
        say("M1");
        due("wipe()", x.wipe(), 2);
        due("again", x.wipe(), 0);
        due("fault of what is left", x.fault(), 0);
    }

    private static void p14Fault() {
        fresh(14);
        String[] correct = {"M0,0", "m-0,-0", "M4000,-4000", "M1,2L3,4Q5,6,7,8C1,2,3,4,5,6Z", "m1,2l3,4q5,6,7,8c1,2,3,4,5,6ZM0,0Zm1,1", "M0,0M1,1", "M400,401L10,999"};
        for (String text : correct) due("fault of " + text, faultOf(text), NONE);
        String[] cut = {"", "M", "M-", "M1", "M1,", "M1,-", "M1,1L", "M1,1Q1,1", "M1,1Q1,1,", "M1,1Q1,1,1", "M1,1C1,1,1,1", "M1,1C1,1,1,1,1", "M1,1ZM"};
        for (String text : cut) due("fault of " + text, faultOf(text), text.length());
        // The character with the fault is the last one.
        String[] wrong = {"L", "Z", "1", ",", "-", "MM", "M,", "M--", "M1-", "M1,,", "M1,1,", "M1,1-", "M00", "M-01", "M0,01", "M4001", "M4000,40000", "M5000", "M-4001", "M1,1z", "M1,1X", "MX", "M1,1LL", "M1,1L1,1,", "M1,1Q1,1L", "M1,1Q1,1Z", "M1,1Q1,1M", "M1,1Q1,1,1,1,", "M1,1C1,1,1,1L", "M1,1C1,1,1,1,1,1,", "M1,1Z1", "M1,1ZZ", "M1,1ZL", "M1,1Zl", "M1,1Z,", "M1,1Z-", "M1Z", "M1M", "M1,Z", "M-,", "M-Z", "M1,-M"};
        for (String text : wrong) due("fault of " + text, faultOf(text), text.length() - 1);
        due("what stands behind the fault", faultOf("M1,1!Z,,--"), 4);
        due("more commands than a path may have", faultOf("M0,0ZM0,0ZM0,0ZM0,0ZM0,0ZM0,0ZM0,0ZM0,0ZM0,0ZM0,0ZM0,0ZM0,0ZM0,0Z"), NONE);
        due("a point out of range", faultOf("M4000,0l1,0"), NONE);
        due("the pad stays", x.count(3), 11);
    }

    private static void p15Load() {
        fresh(15);
        due("of an empty pad", x.load(), BAD_TEXT);
        x.move(9, 9);
        due("a text that is cut", path("M1,1L2"), BAD_TEXT);
        due("the pad stays", x.count(3), 6);
        duePath("BAD_TEXT", "M9,9");
        due("small letters", path("m10,20l1,2q1,1,2,2c-1,-1,-2,-2,-3,-3Zm1,1l5,5"), 7);
        duePath("load()", "M10,20L11,22Q12,23,13,24C12,23,11,22,10,21ZM11,21L16,26");
        due("the pad is empty", x.count(3), 0);
        due("m behind an open contour", path("m1,1l10,10m100,100M7,7m1,1"), 5);
        duePath("load()", "M1,1L11,11M111,111M7,7M8,8");
        due("24 commands", path("M0,0ZM0,0ZM0,0ZM0,0ZM0,0ZM0,0ZM0,0ZM0,0ZM0,0ZM0,0ZM0,0ZM0,0Z"), 24);
        due("25 commands", path("M1,1ZM0,0ZM0,0ZM0,0ZM0,0ZM0,0ZM0,0ZM0,0ZM0,0ZM0,0ZM0,0ZM0,0ZM0,0"), TOO_MANY);
        due("25 commands, and out of range", path("M4000,0Zm1,0ZM0,0ZM0,0ZM0,0ZM0,0ZM0,0ZM0,0ZM0,0ZM0,0ZM0,0ZM0,0ZM0,0"), TOO_MANY);
        due("the pad stays", x.count(3) > 0 ? 1 : 0, 1);
        due("the path stays", x.count(0), 24);
        due("the path's first point stays", x.command(0, 3), 0);
        fresh(15);
        due("beyond by one", path("M-4000,0l-1,0"), NOT_POSSIBLE);
        due("a control point beyond", path("M0,4000q0,1,0,0"), NOT_POSSIBLE);
        due("beyond, and back", path("M4000,0l1,0l-1,0"), NOT_POSSIBLE);
        due("on the edge", path("M3999,0l1,-4000"), 2);
        x.setTolerance(9);
        path("M0,0");
        due("the tolerance stays", x.count(2), 9);
    }

    private static void p16Spell() {
        fresh(16);
        due("an empty path", x.spell(-1), 0);
        due("spell(0)", x.spell(0), NONE);
        x.move(-4000, 0);
        x.line(5, 10);
        x.quad(-1, 100, 999, 1000);
        x.cubic(1, -2, 3, 4000, 60, -705);
        x.close();
        String text = "M-4000,0L5,10Q-1,100,999,1000C1,-2,3,4000,60,-705Z";
        duePath("spell", text);
        due("spell(-1)", x.spell(-1), text.length());
        due("behind the end", x.spell(text.length()), NONE);
        due("spell(-2)", x.spell(-2), NONE);
        due("spell(MAX)", x.spell(MOST), NONE);
        fresh(16);
        x.move(-4000, -4000);
        while (x.count(0) < 24) x.cubic(-4000, -4000, -4000, -4000, -4000, -4000);
        due("the longest text", x.spell(-1), 12 + 23 * 36);
        due("its last character", x.spell(12 + 23 * 36 - 1), '0');
    }

    private static void p17Measure() {
        fresh(17);
        due("no contour, all closed", x.measure(-1, 3), 1);
        due("no contour, vertices", x.measure(-1, 0), 0);
        due("no contour 0", x.measure(0, 0), NO_SUCH);
        due("no contour before a bad what", x.measure(0, 4), NO_SUCH);
        due("what 4", x.measure(-1, 4), BAD_VALUE);
        path("M0,0L3,4L3,4L0,0ZM1,1L1,2M5,5");
        int[][] numbers = {{3, 2, 160, 1}, {2, 1, 16, 0}, {1, 0, 0, 0}};
        for (int k = 0; k < 3; k++) {
            for (int what = 0; what < 4; what++) due("measure(" + k + ", " + what + ")", x.measure(k, what), numbers[k][what]);
        }
        int[] all = {6, 3, 176, 0};
        for (int what = 0; what < 4; what++) due("measure(-1, " + what + ")", x.measure(-1, what), all[what]);
        due("measure(-2, 0)", x.measure(-2, 0), NO_SUCH);
        due("measure(3, 0)", x.measure(3, 0), NO_SUCH);
        due("measure(0, -1)", x.measure(0, -1), BAD_VALUE);
        path("M0,0ZM1,1L2,2Z");
        due("all closed", x.measure(-1, 3), 1);
        path("M0,0L1,1");
        due("the root of 512, rounded down", x.measure(0, 2), 22);
        path("M-4000,-4000L4000,4000");
        due("the longest segment", x.measure(0, 2), 181019);
    }

    private static void p18Vertex() {
        fresh(18);
        due("no contour", x.vertex(0, 0, 0), NO_SUCH);
        path("M1,2L4,6M7,8L7,8L7,10");
        int[][] vertices = {{1, 2, 0}, {4, 6, 80}};
        for (int v = 0; v < 2; v++) {
            for (int what = 0; what < 3; what++) due("vertex(0, " + v + ", " + what + ")", x.vertex(0, v, what), vertices[v][what]);
        }
        due("the distances begin anew", x.vertex(1, 0, 2), 0);
        due("vertex(1, 1, 2)", x.vertex(1, 1, 2), 32);
        due("an equal vertex is not added", x.vertex(1, 2, 0), NO_SUCH);
        due("vertex(0, 2, 0)", x.vertex(0, 2, 0), NO_SUCH);
        due("vertex(0, -1, 0)", x.vertex(0, -1, 0), NO_SUCH);
        due("vertex(-1, 0, 0)", x.vertex(-1, 0, 0), NO_SUCH);
        due("vertex(2, 0, 0)", x.vertex(2, 0, 0), NO_SUCH);
        due("vertex(0, 2, 3)", x.vertex(0, 2, 3), NO_SUCH);
        due("vertex(0, 0, 3)", x.vertex(0, 0, 3), BAD_VALUE);
        due("vertex(0, 0, -1)", x.vertex(0, 0, -1), BAD_VALUE);
    }

    private static void p19At() {
        fresh(19);
        path("M9,9M0,0L-3,-4L-3,6M1,1L2,2");
        due("no contour 3", x.at(3, 0, 0), NO_SUCH);
        due("no contour -1", x.at(-1, 0, 0), NO_SUCH);
        due("no contour before a bad what", x.at(3, 0, 5), NO_SUCH);
        due("what 5 before no segments", x.at(0, 0, 5), BAD_VALUE);
        due("what -1", x.at(1, 0, -1), BAD_VALUE);
        due("no segments", x.at(0, 0, 0), NOT_POSSIBLE);
        due("distance -1", x.at(1, -1, 0), NOT_POSSIBLE);
        due("distance 241", x.at(1, 241, 0), NOT_POSSIBLE);
        int[][] points = {{0, 0, 0, 0, -3, -4}, {79, -2, -3, 0, -3, -4}, {80, -3, -4, 0, -3, -4}, {81, -3, -4, 1, 0, 10}, {96, -3, -3, 1, 0, 10}, {240, -3, 6, 1, 0, 10}};
        for (int[] p : points) {
            for (int what = 0; what < 5; what++) due("at(1, " + p[0] + ", " + what + ")", x.at(1, p[0], what), p[what + 1]);
        }
        due("segments are numbered through", x.at(2, 0, 2), 2);
        path("M-4000,-4000L4000,4000");
        due("the middle of the longest segment", x.at(0, 90509, 0), -1);
        due("the end of the longest segment", x.at(0, 181019, 1), 4000);
    }

    private static void p20Nearest() {
        fresh(20);
        due("no segments", x.nearest(0, 0, 0), NOT_POSSIBLE);
        due("a bad what", x.nearest(0, 0, 4), BAD_VALUE);
        due("what -1", x.nearest(0, 0, -1), BAD_VALUE);
        due("a bad x", x.nearest(4001, 0, 0), BAD_VALUE);
        due("a bad y", x.nearest(0, -4001, 0), BAD_VALUE);
        path("M5,5M0,0L10,0L10,10M20,0L20,10");
        int[][] points = {{5, 3, 5, 0, 0, 9}, {-3, -4, 0, 0, 0, 25}, {13, 14, 10, 10, 1, 25}, {10, 0, 10, 0, 0, 0}, {15, 5, 10, 5, 1, 25}, {16, 5, 20, 5, 2, 16}, {5, 5, 5, 0, 0, 25}};
        for (int[] p : points) {
            for (int what = 0; what < 4; what++) due("nearest(" + p[0] + ", " + p[1] + ", " + what + ")", x.nearest(p[0], p[1], what), p[what + 2]);
        }
        // q = 7, n = 25: (0 - 3 * 7 / 25, 0 - 4 * 7 / 25) is (0, -1).
        path("M0,0L-3,-4");
        due("truncated toward 0, x", x.nearest(-1, -1, 0), 0);
        due("truncated toward 0, y", x.nearest(-1, -1, 1), -1);
        path("M-4000,-4000L4000,4000");
        due("far away", x.nearest(4000, -4000, 3), 32000000);
        path("M-4000,-4000L-4000,-3999");
        due("farthest", x.nearest(4000, 4000, 3), 64000000 + 7999 * 7999);
    }

    private static void p21Winding() {
        fresh(21);
        due("an empty path", x.winding(0, 0), 0);
        due("a bad x", x.winding(-4001, 0), BAD_VALUE);
        due("a bad y", x.winding(0, 4001), BAD_VALUE);
        path("M0,0L10,0L10,10L0,10");
        due("inside, closed by a line", x.winding(5, 5), 1);
        due("outside", x.winding(11, 5), 0);
        due("to the left of it", x.winding(-1, 5), 0);
        due("on the lower line", x.winding(5, 0), 1);
        due("on the upper line", x.winding(5, 10), 0);
        due("on the left line", x.winding(0, 5), 1);
        due("on the right line", x.winding(10, 5), 0);
        x.reverse(0);
        due("the other way round", x.winding(5, 5), -1);
        path("M0,0L10,0L10,10L0,10ZM2,2L8,2L8,8L2,8ZM0,20L9,20");
        due("twice", x.winding(5, 5), 2);
        due("once", x.winding(1, 5), 1);
        x.reverse(1);
        due("a hole", x.winding(5, 5), 0);
    }

    private static void p22Area() {
        fresh(22);
        due("no contour", x.area(0), PathFlattener.GONE);
        path("M7,7M0,0L10,0L10,10L0,10M1,1L1,1");
        due("a point", x.area(0), 0);
        due("an open square", x.area(1), 200);
        x.reverse(1);
        due("the other way round", x.area(1), -200);
        due("area(-1)", x.area(-1), PathFlattener.GONE);
        due("area(3)", x.area(3), PathFlattener.GONE);
        path("M-4000,-4000L4000,-4000L4000,4000L-4000,4000Z");
        due("the greatest square", x.area(0), 128000000);
        path("M-4000,-4000L4000,-4000L4000,4000L-4000,4000L-4000,-4000L4000,-4000L4000,4000L-4000,4000Z");
        x.reverse(0);
        due("twice around it", x.area(0), -256000000);
        fresh(22);
        x.move(-4000, -4000);
        for (int i = 0; i < 5; i++) {
            x.line(4000, -4000);
            x.line(4000, 4000);
            x.line(-4000, 4000);
            x.line(-4000, -4000);
        }
        due("five times around it", x.area(0), 640000000);
    }

    private static void p23Bound() {
        fresh(23);
        due("no contour at all", x.bound(-1, 0), NO_SUCH);
        due("no contour before a bad what", x.bound(-1, 4), NO_SUCH);
        path("M5,6L-7,8L9,-10M100,200Q-4000,4000,100,200");
        int[] first = {-7, -10, 9, 8};
        for (int what = 0; what < 4; what++) due("bound(0, " + what + ")", x.bound(0, what), first[what]);
        due("a control point is no vertex", x.bound(1, 0) > -4000 ? 1 : 0, 1);
        due("the curve's far end", x.bound(1, 0), -1950);
        due("bound(1, 2)", x.bound(1, 2), 100);
        due("bound(-1, 0)", x.bound(-1, 0), -1950);
        due("bound(-1, 1)", x.bound(-1, 1), -10);
        due("bound(-1, 2)", x.bound(-1, 2), 100);
        due("bound(-1, 3)", x.bound(-1, 3), 2100);
        due("bound(2, 0)", x.bound(2, 0), NO_SUCH);
        due("bound(-2, 0)", x.bound(-2, 0), NO_SUCH);
        due("bound(0, 4)", x.bound(0, 4), BAD_VALUE);
        due("bound(-1, -1)", x.bound(-1, -1), BAD_VALUE);
    }

    private static void dueKept(int contour, int limit, int... kept) {
        due("simplified(" + contour + ", " + limit + ", -1)", x.simplified(contour, limit, -1), kept.length);
        for (int i = 0; i < kept.length; i++) due("simplified(" + contour + ", " + limit + ", " + i + ")", x.simplified(contour, limit, i), kept[i]);
        due("behind the last", x.simplified(contour, limit, kept.length), NONE);
    }

    private static void p24Simplified() {
        fresh(24);
        due("no contour", x.simplified(0, 0, -1), NO_SUCH);
        due("no contour before a bad limit", x.simplified(0, -1, -1), NO_SUCH);
        path("M0,0L10,0L20,3L30,0L40,-3L50,0M1,1M2,2L3,3M0,0L3,4L6,0L3,-4Z");
        due("limit -1", x.simplified(0, -1, -1), BAD_VALUE);
        due("limit 1001", x.simplified(0, 1001, 0), BAD_VALUE);
        due("no contour 4", x.simplified(4, 0, 0), NO_SUCH);
        due("no contour -1", x.simplified(-1, 0, 0), NO_SUCH);
        // Of the deviations 3 of (20, 3) and (40, -3), the first counts; then (10, 0), (30, 0)
        // and (40, -3) lie 1.5, 1 and 2 below and above the lines through it.
        dueKept(0, 0, 0, 1, 2, 4, 5);
        dueKept(0, 3, 0, 5);
        dueKept(0, 2, 0, 2, 4, 5);
        dueKept(0, 1000, 0, 5);
        dueKept(1, 0, 0);
        dueKept(2, 0, 0, 1);
        // First and last vertex are equal: (6, 0) is 6 away, the others 5.
        dueKept(3, 5, 0, 2, 4);
        dueKept(3, 6, 0, 4);
        dueKept(3, 3, 0, 1, 2, 3, 4);
        due("index -2", x.simplified(3, 3, -2), NONE);
        due("index MIN", x.simplified(3, 3, LEAST), NONE);
        path("M-4000,-4000L4000,-4000L4000,4000L-4000,3999");
        dueKept(0, 1000, 0, 1, 2, 3);
    }

    private static void p25AddDash() {
        fresh(25);
        due("addDash(0)", x.addDash(0), BAD_VALUE);
        due("addDash(100001)", x.addDash(100001), BAD_VALUE);
        due("addDash(1)", x.addDash(1), 1);
        due("addDash(100000)", x.addDash(100000), 2);
        for (int i = 3; i <= 6; i++) due("addDash(5)", x.addDash(5), i);
        due("the seventh", x.addDash(5), TOO_MANY);
        due("the seventh, a bad value", x.addDash(0), BAD_VALUE);
        due("count(5)", x.count(5), 6);
    }

    private static void p26ClearDashes() {
        fresh(26);
        due("clearDashes(0)", x.clearDashes(0), 0);
        x.addDash(10);
        x.addDash(10);
        due("clearDashes(-1)", x.clearDashes(-1), BAD_VALUE);
        due("clearDashes(100001)", x.clearDashes(100001), BAD_VALUE);
        due("they stay", x.count(5), 2);
        due("clearDashes(100000)", x.clearDashes(100000), 2);
        due("count(5)", x.count(5), 0);
        path("M0,0L1,0");
        x.addDash(7);
        x.addDash(4);
        // 100000 is 9090 * 11 + 10: the first dash begins at -10 + 11.
        due("the phase counts", x.dash(0, 0, 0), 1);
        x.clearDashes(0);
        x.addDash(7);
        x.addDash(4);
        due("the new phase counts", x.dash(0, 0, 1), 7);
    }

    private static void p27Dash() {
        fresh(27);
        due("no contour", x.dash(0, -1, 0), NO_SUCH);
        due("no contour before a bad what", x.dash(0, -1, 2), NO_SUCH);
        path("M0,0L10,0M5,5M-4000,0L4000,0");
        due("no contour -1", x.dash(-1, -1, 0), NO_SUCH);
        due("a bad what before an empty pattern", x.dash(0, -1, 2), BAD_VALUE);
        due("what -1", x.dash(0, -1, -1), BAD_VALUE);
        due("an empty pattern", x.dash(0, -1, 0), NOT_POSSIBLE);
        x.addDash(50);
        due("an odd pattern", x.dash(0, -1, 0), NOT_POSSIBLE);
        x.addDash(30);
        dueDashes(0, 0, 50, 80, 130);
        dueDashes(1);
        due("index -2", x.dash(0, -2, 0), NONE);
        x.addDash(20);
        x.addDash(10);
        dueDashes(0, 0, 50, 80, 100, 110, 160);
        x.clearDashes(50);
        x.addDash(50);
        x.addDash(30);
        dueDashes(0, 30, 80, 110, 160);
        x.clearDashes(49);
        x.addDash(50);
        x.addDash(110);
        dueDashes(0, 0, 1, 111, 160);
        x.clearDashes(0);
        x.addDash(100);
        x.addDash(60);
        dueDashes(0, 0, 100);
        // 8000 units are 128000 sixteenths: with a period of 128 there are 1000 dashes.
        x.clearDashes(0);
        x.addDash(1);
        x.addDash(127);
        due("just 1000", x.dash(2, -1, 0), 1000);
        due("the last of 1000", x.dash(2, 999, 1), 999 * 128 + 1);
        due("index 1000", x.dash(2, 1000, 0), NONE);
        x.clearDashes(127);
        x.addDash(1);
        x.addDash(127);
        due("still 1000", x.dash(2, -1, 0), 1000);
        x.clearDashes(1);
        x.addDash(2);
        x.addDash(126);
        due("one more", x.dash(2, -1, 0), TOO_MANY);
        due("one more, whatever the index", x.dash(2, 5, 1), TOO_MANY);
        due("one more, no such index", x.dash(2, MOST, 1), TOO_MANY);
    }

    private static void dueDashes(int contour, int... edges) {
        due("number of dashes", x.dash(contour, -1, 0), edges.length / 2);
        due("number of dashes", x.dash(contour, -1, 1), edges.length / 2);
        for (int i = 0; i < edges.length; i++) due("dash(" + contour + ", " + i / 2 + ", " + i % 2 + ")", x.dash(contour, i / 2, i % 2), edges[i]);
        due("behind the last dash", x.dash(contour, edges.length / 2, 0), NONE);
    }

    private static void p28SetWidth() {
        fresh(28);
        due("setWidth(0, 1)", x.setWidth(0, 1), 160);
        due("setWidth(0, 4000)", x.setWidth(0, 4000), 1);
        due("setWidth(25, 7)", x.setWidth(25, 7), 160);
        due("setWidth(0, 0)", x.setWidth(0, 0), BAD_VALUE);
        due("setWidth(0, 4001)", x.setWidth(0, 4001), BAD_VALUE);
        due("setWidth(-1, 0)", x.setWidth(-1, 0), NO_SUCH);
        due("setWidth(26, 1)", x.setWidth(26, 1), NO_SUCH);
        due("it stays", x.setWidth(0, 5), 4000);
        path("M0,0L1000,0");
        x.write(25);
        due("the center of a width of 7", x.letter(0, 0, 1), 3);
    }

    private static void p29SetKerning() {
        fresh(29);
        due("no letter on the left", x.setKerning(26, 0, 0), NO_SUCH);
        due("no letter on the right", x.setKerning(0, -1, 501), NO_SUCH);
        due("501", x.setKerning(0, 0, 501), BAD_VALUE);
        due("-501", x.setKerning(0, 0, -501), BAD_VALUE);
        due("0 for a pair without", x.setKerning(1, 2, 0), 0);
        for (int i = 0; i < 20; i++) due("setKerning", x.setKerning(i, 25, i % 2 == 0 ? 500 : -500), i + 1);
        due("the 21st", x.setKerning(25, 0, 1), TOO_MANY);
        due("one of the 20", x.setKerning(3, 25, 2), 20);
        due("0 for another pair", x.setKerning(25, 0, 0), 20);
        due("0 for one of the 20", x.setKerning(3, 25, 0), 19);
        due("again", x.setKerning(3, 25, 0), 19);
        due("another pair then", x.setKerning(25, 0, 1), 20);
        due("the pair the other way round", x.setKerning(25, 1, 1), TOO_MANY);
        due("count(6)", x.count(6), 20);
        path("M0,0L1000,0");
        x.write(25);
        x.write(0);
        x.write(25);
        x.write(1);
        due("a pair with a kerning of 1", x.letter(0, 1, 1), 241);
        due("the pair the other way round has 500", x.letter(0, 2, 1), 901);
        due("a pair without", x.letter(0, 3, 1), 1061);
    }

    private static void p30Write() {
        fresh(30);
        due("write(26)", x.write(26), NO_SUCH);
        due("write(-1)", x.write(-1), NO_SUCH);
        for (int i = 1; i <= 24; i++) due("write", x.write(i % 2 == 0 ? 0 : 25), i);
        due("the 25th", x.write(0), TOO_MANY);
        due("the 25th, no letter", x.write(26), NO_SUCH);
        due("count(4)", x.count(4), 24);
    }

    private static void p31Erase() {
        fresh(31);
        due("an empty lettering", x.erase(), 0);
        path("M0,0L100,0");
        letters(3);
        x.arrange(40, 0, 0);
        due("erase()", x.erase(), 3);
        due("count(4)", x.count(4), 0);
        due("letter(0, 0, 0)", x.letter(0, 0, 0), NO_SUCH);
        x.write(0);
        due("the offset stays", x.letter(0, 0, 1), 120);
    }

    private static void p32Arrange() {
        fresh(32);
        letters(2);
        due("the least", x.arrange(-20000, -100, 0), 2);
        due("the most", x.arrange(100000, 1000, 3), 2);
        int[][] wrong = {{-20001, 0, 0}, {100001, 0, 0}, {0, -101, 0}, {0, 1001, 0}, {0, 0, -1}, {0, 0, 4}};
        for (int[] w : wrong) due("arrange(" + w[0] + ", " + w[1] + ", " + w[2] + ")", x.arrange(w[0], w[1], w[2]), BAD_VALUE);
        path("M0,0L100,0");
        due("nothing has changed", x.letter(0, 0, 0), NONE);
        x.arrange(10, 20, 0);
        due("offset", x.letter(0, 0, 1), 90);
        due("offset and spacing", x.letter(0, 1, 1), 270);
    }

    private static void dueCenters(int contour, int... centers) {
        for (int i = 0; i < centers.length; i++) due("letter(" + contour + ", " + i + ", 1)", x.letter(contour, i, 1), centers[i]);
    }

    private static void p33Letter() {
        fresh(33);
        due("no contour", x.letter(0, 0, 0), NO_SUCH);
        path("M5,5M0,0L100,0L100,100M7,7L7,27Z");
        due("no letter", x.letter(1, 0, 0), NO_SUCH);
        letters(3);
        due("no letter 3", x.letter(1, 3, 5), NO_SUCH);
        due("no letter -1", x.letter(1, -1, 0), NO_SUCH);
        due("no contour 3", x.letter(3, 0, 0), NO_SUCH);
        due("no contour -1", x.letter(-1, 0, 0), NO_SUCH);
        due("what 5", x.letter(0, 0, 5), BAD_VALUE);
        due("what -1", x.letter(0, 0, -1), BAD_VALUE);
        dueCenters(0, NONE, NONE, NONE);
        dueCenters(1, 80, 240, 400);
        x.arrange(1500, 0, 0);
        int[] numbers = {1, 1740, 100, 8, 1};
        for (int what = 0; what < 5; what++) due("letter(1, 1, " + what + ")", x.letter(1, 1, what), numbers[what]);
        hideAndSqueeze();
        round();
        moveOn();
    }

    private static void hideAndSqueeze() {
        // The contour 1 is 3200 long; three letters of 160 end 480 behind the offset.
        x.arrange(-80, 0, 0);
        dueCenters(1, 0, 160, 320);
        x.arrange(-81, 0, 0);
        dueCenters(1, NONE, 159, 319);
        x.arrange(2800, 0, 0);
        dueCenters(1, 2880, 3040, 3200);
        x.arrange(2801, 0, 0);
        dueCenters(1, 2881, 3041, NONE);
        x.arrange(2720, 0, 1);
        dueCenters(1, 2800, 2960, 3120);
        x.arrange(2721, 0, 1);
        dueCenters(1, 2721 + 80 * 479 / 480, 2721 + 240 * 479 / 480, 2721 + 400 * 479 / 480);
        x.arrange(3199, 0, 1);
        dueCenters(1, 3199, 3199, 3199);
        x.arrange(3200, 0, 1);
        dueCenters(1, NONE, NONE, NONE);
        x.arrange(-300, 1000, 1);
        // They end at 2180, so nothing is squeezed.
        dueCenters(1, NONE, 940, 2100);
        dueCenters(0, NONE, NONE, NONE);
        x.setWidth(2, 4000);
        // They end at 6020: (c + 300) * 3500 / 6320 - 300.
        dueCenters(1, NONE, 1240 * 3500 / 6320 - 300, 4320 * 3500 / 6320 - 300);
        x.setWidth(2, 160);
    }

    private static void round() {
        x.arrange(0, 0, 2);
        dueCenters(1, 80, 240, 400);
        x.arrange(-200, 0, 2);
        dueCenters(1, NONE, 40, 200);
        dueCenters(2, 640 - 120, 40, 200);
        x.arrange(400, 0, 2);
        dueCenters(2, 480, 0, 160);
        due("on the way back", x.letter(2, 0, 3), 17);
        due("its segment", x.letter(2, 0, 4), 3);
        x.arrange(-20000, 0, 2);
        dueCenters(2, Math.floorMod(-19920, 640), Math.floorMod(-19760, 640), Math.floorMod(-19600, 640));
        dueCenters(0, NONE, NONE, NONE);
    }

    private static void moveOn() {
        // Lengths: 160, none, 100, 480.
        path("M0,0L10,0M1,1M0,5L0,5L5,5L6,6M0,9L30,9");
        due("the third contour", x.measure(2, 2), 102);
        x.arrange(0, 0, 3);
        dueCenters(0, 80, 80, 240);
        int[] homes = {0, 3, 3};
        for (int i = 0; i < 3; i++) due("letter(0, " + i + ", 0)", x.letter(0, i, 0), homes[i]);
        x.arrange(1, 0, 3);
        dueCenters(0, 80, 240, 400);
        due("all on the last", x.letter(0, 0, 0), 3);
        x.arrange(0, 1, 3);
        dueCenters(0, 80, 80, 241);
        x.arrange(1, 1, 3);
        dueCenters(0, 80, 241, NONE);
        x.arrange(-80, 0, 3);
        dueCenters(0, 0, 160 - 80, 240);
        due("the second one does not end within the first", x.letter(0, 1, 0), 3);
        x.arrange(-81, 0, 3);
        dueCenters(0, NONE, 159 - 79, 240);
        x.arrange(-160, 0, 3);
        dueCenters(0, NONE, 80, 80);
        due("begins at 0", x.letter(0, 1, 0), 0);
        x.arrange(-300, 0, 3);
        dueCenters(0, NONE, NONE, 80);
        dueCenters(1, 80, 240, 400);
        dueCenters(2, NONE, NONE, 80);
        x.arrange(321, 0, 3);
        dueCenters(3, NONE, NONE, NONE);
        x.setWidth(0, 103);
        x.arrange(0, 0, 3);
        due("103 do not fit into 102", x.letter(2, 0, 0), 3);
        x.setWidth(0, 102);
        due("102 do", x.letter(2, 0, 0), 2);
        due("the next one is on the next", x.letter(2, 1, 0), 3);
        x.setWidth(1, 4000);
        dueCenters(0, 51, NONE, NONE);
    }

    private static void p34Placed() {
        fresh(34);
        due("no contour", x.placed(0, 0), NO_SUCH);
        due("no contour before a bad what", x.placed(0, 2), NO_SUCH);
        path("M5,5M0,0L10,0L0,0L10,0");
        due("what 2", x.placed(0, 2), BAD_VALUE);
        due("what -1", x.placed(0, -1), BAD_VALUE);
        due("no letters", x.placed(1, 0), 0);
        due("no contour -1", x.placed(-1, 0), NO_SUCH);
        letters(4);
        due("on a point", x.placed(0, 0), 0);
        due("on a point", x.placed(0, 1), 0);
        due("three of four", x.placed(1, 0), 3);
        due("there and back and there", x.placed(1, 1), 2);
        x.arrange(-160, 0, 0);
        due("the first is not placed", x.placed(1, 1), 2);
        x.arrange(0, -50, 0);
        // Centers 80, 190, 300, 410: the segments 0, 1, 1 and 2.
        due("two on one segment", x.placed(1, 1), 2);
        path("M0,0L20,0L10,1L10,20");
        x.arrange(0, 0, 0);
        // Centers 80, 240, 400 and 560: the segments 0, 0, 1 and 2.
        due("only the third one turns back", x.placed(0, 1), 1);
        path("M0,0L10,0L10,10L0,10Z");
        x.arrange(0, 0, 2);
        due("right angles are not backward", x.placed(0, 1), 0);
        path("M0,0L10,0M10,0L0,0M0,0L20,0L0,1");
        x.arrange(0, 0, 3);
        due("all four", x.placed(0, 0), 4);
        due("other contours do not count", x.placed(0, 1), 0);
        x.setWidth(3, 400);
        due("the fourth one turns back", x.placed(0, 1), 1);
        x.setWidth(3, 160);
        x.setWidth(0, 200);
        // All move to the last contour, with the centers 100, 280 and 440; the fourth is not placed.
        due("the third one turns back", x.placed(0, 1), 1);
        due("three of four", x.placed(0, 0), 3);
        due("the same when it begins there", x.placed(2, 0), 3);
    }

    private static void p35Count() {
        fresh(35);
        path("M0,0L1,1ZM2,2");
        x.setTolerance(17);
        say("M1,1x");
        letters(6);
        for (int i = 0; i < 3; i++) x.addDash(9);
        x.setKerning(1, 1, 1);
        x.setKerning(1, 2, 1);
        int[] counts = {4, 2, 17, 5, 6, 3, 2};
        for (int i = 0; i < counts.length; i++) due("count(" + i + ")", x.count(i), counts[i]);
        due("count(-1)", x.count(-1), BAD_VALUE);
        due("count(7)", x.count(7), BAD_VALUE);
        due("count(MIN)", x.count(LEAST), BAD_VALUE);
    }

    private static void p36Save() {
        fresh(36);
        due("save(-1)", x.save(-1), BAD_VALUE);
        due("save(2)", x.save(2), BAD_VALUE);
        path("M0,0L3,4");
        due("save(0)", x.save(0), 2);
        path("M1,1");
        due("save(1)", x.save(1), 1);
        path("M2,2L3,3Z");
        due("save(0), over the other", x.save(0), 3);
        path("M9,9");
        x.restore(1);
        duePath("restore(1)", "M1,1");
        x.restore(0);
        duePath("restore(0)", "M2,2L3,3Z");
        x.move(0, 0);
        x.restore(0);
        duePath("restore(0) after a change", "M2,2L3,3Z");
    }

    private static void p37Restore() {
        fresh(37);
        due("restore(-1)", x.restore(-1), BAD_VALUE);
        due("restore(2)", x.restore(2), BAD_VALUE);
        due("restore(1)", x.restore(1), NOT_POSSIBLE);
        x.setTolerance(6);
        due("save of an empty path", x.save(1), 0);
        due("nothing in the other", x.restore(0), NOT_POSSIBLE);
        path("M0,0Q0,100,100,100");
        x.setTolerance(50);
        letters(2);
        say("M");
        int vertices = x.measure(0, 0);
        x.save(0);
        due("restore of an empty path", x.restore(1), 0);
        due("its tolerance", x.count(2), 6);
        due("no vertices", x.measure(-1, 0), 0);
        due("letters stay", x.count(4), 2);
        due("the pad stays", x.count(3), 1);
        due("restore(0)", x.restore(0), 2);
        due("its tolerance", x.count(2), 50);
        due("its vertices", x.measure(0, 0), vertices);
        due("restore(0) again", x.restore(0), 2);
    }

    // ---- the description's own words about flattening

    private static void flattening() {
        fresh(4);
        path("M0,0Q10,20,20,0");
        // 40 is more than 16; the halves with 10 are flat.
        dueVertices(0, 0, 0, 10, 10, 20, 0);
        // -7 >> 1 is -4: middles are rounded down.
        path("M0,0Q-7,0,-14,-41");
        dueVertices(0, 0, 0, -8, -11, -14, -41);
        x.setTolerance(11);
        dueVertices(0, 0, 0, -14, -41);
        x.setTolerance(4);
        promise = 5;
        // 0 - 2 * 4 + 0 is 8, just flat; one more is not.
        path("M0,0C4,0,0,0,0,4");
        due("|0 - 8 + 0| and |4 - 0 + 0| + 4", x.measure(0, 1), 1);
        path("M0,0C5,0,1,0,0,0");
        due("|0 - 10 + 1| is above 8", x.measure(0, 0), 3);
        path("M0,0C0,0,0,5,0,0");
        due("|0 - 10 + 0| at the second control point", x.measure(0, 0), 3);
        dueVertices(0, 0, 0, 0, 1, 0, 0);
        x.setTolerance(1);
        path("M-4000,-4000C4000,4000,-4000,4000,4000,-4000");
        due("no more than 64 pieces", x.measure(0, 1), 64);
        path("M-4000,0Q4000,4000,-4000,-4000");
        due("no more than 64 pieces", x.measure(0, 1), 64);
        fresh(17);
        x.setTolerance(1);
        x.move(-4000, -4000);
        while (x.count(0) < 24) x.cubic(4000, 4000, -4000, 4000, x.count(0) % 2 == 0 ? -4000 : 4000, -4000);
        due("the most vertices", x.measure(0, 0), 1 + 23 * 64);
        due("the last segment", x.at(0, x.measure(0, 2), 2), 23 * 64 - 1);
        due("kept with the limit 0", x.simplified(0, 0, -1) > 1000 ? 1 : 0, 1);
    }

    // Two objects know nothing of one another.
    private static void independence() {
        PathFlattener one = new PathFlattener();
        PathFlattener two = new PathFlattener();
        one.move(1, 1);
        one.write(3);
        one.setWidth(3, 9);
        due("another object's commands", two.count(0), 0);
        due("another object's letters", two.count(4), 0);
        due("another object's widths", two.setWidth(3, 1), 160);
    }
}
