// The sentences of the promises 1 to 11.
final class PathEdges extends Edges {
    static void run() {
        newObject();
        move();
        line();
        curves();
        close();
        removeLast();
        command();
        setTolerance();
        reverse();
        transform();
    }

    private static void newObject() {
        promise(1);
        says("Creates an empty path.");
        play("count(0) = 0; count(1) = 0; count(2) = 4; count(3) = 0; count(4) = 0; count(5) = 0; count(6) = 0");
        play("spell(-1) = 0; measure(-1,0) = 0; measure(0,0) = NO_SUCH; command(0,0) = NO_SUCH; removeLast() = NOT_POSSIBLE");
    }

    private static void move() {
        promise(2);
        says("Appends a MOVE.", "Returns the number of commands then;");
        play("move(1,2) = 1; move(3,4) = 2; command(1,0) = 0; command(1,3) = 3; command(1,4) = 4; command(0,3) = 1");

        says("- `x`: -4000 to 4000", "- `y`: -4000 to 4000", "BAD_VALUE if a coordinate is out of range;");
        play("move(-4001,0) = BAD_VALUE; move(-4000,0) = 1; move(4000,0) = 2; move(4001,0) = BAD_VALUE");
        play("move(0,-4001) = BAD_VALUE; move(0,-4000) = 3; move(0,4000) = 4; move(0,4001) = BAD_VALUE");
        play("move(MIN,0) = BAD_VALUE; move(MAX,0) = BAD_VALUE; move(0,MIN) = BAD_VALUE; move(0,MAX) = BAD_VALUE");
        play("command(0,3) = -4000; command(1,3) = 4000; command(2,4) = -4000; command(3,4) = 4000; count(0) = 4");

        says("TOO_MANY if there are 24 commands.");
        fill(23);
        play("move(0,0) = 24; move(0,0) = TOO_MANY; removeLast() = 23; move(0,0) = 24; move(0,0) = TOO_MANY");
    }

    private static void line() {
        promise(3);
        says("Appends a LINE.", "Returns the number of commands then;");
        play("move(1,2) = 1; line(3,4) = 2; command(1,0) = 1; command(1,1) = 0; command(1,3) = 3; command(1,4) = 4");

        says("- `x`: the end point; -4000 to 4000", "- `y`: -4000 to 4000", "BAD_VALUE if a coordinate is out of range;");
        play("move(0,0); line(-4001,0) = BAD_VALUE; line(-4000,0) = 2; line(4000,0) = 3; line(4001,0) = BAD_VALUE");
        play("line(0,-4001) = BAD_VALUE; line(0,-4000) = 4; line(0,4000) = 5; line(0,4001) = BAD_VALUE");
        play("line(MIN,0) = BAD_VALUE; line(MAX,0) = BAD_VALUE; line(0,MIN) = BAD_VALUE; line(0,MAX) = BAD_VALUE; count(0) = 5");

        says("NOT_POSSIBLE if there is no command, or the last one is a CLOSE;");
        play("line(1,1) = NOT_POSSIBLE; move(0,0); line(1,1) = 2; close(); line(1,1) = NOT_POSSIBLE");
        play("move(2,2); line(1,1) = 5; close(); line(1,1) = NOT_POSSIBLE; removeLast(); line(1,1) = 6");
        play("removeLast(); removeLast(); removeLast(); line(1,1) = NOT_POSSIBLE; removeLast(); line(1,1) = 3");

        says("TOO_MANY if there are 24 commands.");
        fill(23);
        play("line(0,0) = 24; line(0,0) = TOO_MANY; removeLast() = 23; line(0,0) = 24; line(0,0) = TOO_MANY");
    }

    // "as with line()" in all its cases, for a call with the given number of coordinates.
    private static void asWithLine(String name, int coordinates) {
        int[] n = new int[coordinates];
        due(NOT_POSSIBLE, name, n);
        ask("move", 1, 1);
        due(2, name, n);
        for (int i = 0; i < coordinates; i++) {
            int before = (int) ask("count", 0);
            for (int bad : new int[] {-4001, 4001, Integer.MIN_VALUE, Integer.MAX_VALUE}) {
                n[i] = bad;
                due(BAD_VALUE, name, n);
            }
            n[i] = -4000;
            due(before + 1, name, n);
            n[i] = 4000;
            due(before + 2, name, n);
            n[i] = 0;
        }
        ask("close");
        due(NOT_POSSIBLE, name, n);
        ask("removeLast");
        while (ask("count", 0) < 23) ask("line", 0, 0);
        due(24, name, n);
        due(TOO_MANY, name, n);
        ask("removeLast");
        due(24, name, n);
    }

    private static void curves() {
        promise(4);
        says("Appends a QUAD.", "- `cx`: the control point", "- `cy`: likewise", "- `x`: the end point", "- `y`: likewise");
        play("move(9,9); quad(1,2,3,4) = 2; command(1,0) = 2; command(1,5) = 1; command(1,6) = 2; command(1,3) = 3; command(1,4) = 4; command(1,7) = NONE; command(1,8) = NONE");
        says("Returns as with line().");
        asWithLine("quad", 4);

        promise(5);
        says("Appends a CUBIC.", "- `ax`: the first control point", "- `ay`: likewise", "- `bx`: the second control point", "- `by`: likewise", "- `x`: the end point", "- `y`: likewise");
        play("move(9,9); cubic(1,2,3,4,5,6) = 2; command(1,0) = 3; command(1,5) = 1; command(1,6) = 2; command(1,7) = 3; command(1,8) = 4; command(1,3) = 5; command(1,4) = 6");
        says("Returns as with line().");
        asWithLine("cubic", 6);
    }

    private static void close() {
        promise(6);
        says("Appends a CLOSE.", "Returns the number of commands then;");
        play("move(1,2); line(3,4); close() = 3; command(2,0) = 4; measure(0,3) = 1; move(5,6); close() = 5; command(4,3) = 5; command(4,4) = 6");

        says("NOT_POSSIBLE if there is no command, or the last one is a CLOSE;");
        play("close() = NOT_POSSIBLE; move(0,0); close() = 2; close() = NOT_POSSIBLE; move(0,0); close() = 4; close() = NOT_POSSIBLE");
        play("removeLast(); close() = 4; removeLast(); removeLast(); close() = NOT_POSSIBLE; removeLast(); removeLast(); close() = NOT_POSSIBLE");

        says("TOO_MANY if there are 24 commands.");
        fill(23);
        play("close() = 24; removeLast() = 23; line(0,0) = 24; close() = TOO_MANY; measure(0,3) = 0");
    }

    private static void removeLast() {
        promise(7);
        says("Removes the last command.", "Returns the number of commands that are left;");
        path("M0,0L3,4ZM1,1L1,2");
        play("removeLast() = 4; count(1) = 2; measure(1,1) = 0; removeLast() = 3; count(1) = 1; measure(0,3) = 1; measure(0,2) = 160");
        play("removeLast() = 2; measure(0,3) = 0; measure(0,2) = 80; removeLast() = 1; measure(0,2) = 0; removeLast() = 0; count(1) = 0");
        fresh();
        fill(24);
        play("removeLast() = 23");

        says("NOT_POSSIBLE if there is none.");
        play("removeLast() = NOT_POSSIBLE; move(0,0) = 1; removeLast() = 0; removeLast() = NOT_POSSIBLE; count(0) = 0");
    }

    private static void command() {
        promise(8);
        says("Returns a property of a command.", "- `command`: the command", "NO_SUCH if there is no such command;");
        play("command(0,0) = NO_SUCH; command(-1,0) = NO_SUCH");
        path("M1,2L3,4");
        play("command(-1,0) = NO_SUCH; command(0,0) = 0; command(1,0) = 1; command(2,0) = NO_SUCH; command(MIN,0) = NO_SUCH; command(MAX,0) = NO_SUCH");
        play("removeLast(); command(1,0) = NO_SUCH; command(0,0) = 0");
        fresh();
        fill(24);
        play("command(23,0) = 1; command(24,0) = NO_SUCH");

        says("- `what`: 0 for its kind, 1 for its contour, 2 for the length that its segments have together, 3 and 4 for the x and y of its end point (for a CLOSE, the point of the MOVE), 5 to 8 for the x and y of its first and second control point", "Returns the property,");
        path("M7,8M1,2L4,6Q5,6,14,6C11,12,13,14,15,16Z");
        dueCommand(0, 0, 0, 0, 7, 8, NONE, NONE, NONE, NONE);
        dueCommand(1, 0, 1, 0, 1, 2, NONE, NONE, NONE, NONE);
        dueCommand(2, 1, 1, 80, 4, 6, NONE, NONE, NONE, NONE);
        // |4 - 10 + 14| is 8, so it is one segment of 10 units.
        dueCommand(3, 2, 1, 160, 14, 6, 5, 6, NONE, NONE);
        // |14 - 22 + 13| + |6 - 24 + 14| is 9, so it has two segments.
        play("command(4,0) = 3; command(4,1) = 1; command(4,3) = 15; command(4,4) = 16; command(4,5) = 11; command(4,6) = 12; command(4,7) = 13; command(4,8) = 14");
        // From (15, 16) to (1, 2): the root of 256 * 392.
        dueCommand(5, 4, 1, 316, 1, 2, NONE, NONE, NONE, NONE);
        path("M0,0L3,4L3,4L0,0Z");
        play("command(2,2) = 0; command(3,2) = 80; command(4,2) = 0");
        path("M0,0Q0,0,17,0");
        play("command(1,2) = 272; measure(0,1) = 2");
        path("M1,1L2,2M3,3");
        play("command(1,1) = 0; command(2,1) = 1; removeLast(); command(1,1) = 0");
        path("M5,5L6,6M9,9L9,9");
        play("command(2,2) = 0; command(3,2) = 0; command(1,2) = 22");

        says("or NONE if it has no such control point;");
        path("M1,1L2,2Q3,3,4,4C5,5,6,6,7,7Z");
        for (int what = 5; what <= 8; what++) {
            due(NONE, "command", 0, what);
            due(NONE, "command", 1, what);
            due(what <= 6 ? 3 : NONE, "command", 2, what);
            due(what <= 6 ? 5 : 6, "command", 3, what);
            due(NONE, "command", 4, what);
        }

        says("BAD_VALUE if what is not 0 to 8.");
        path("M1,2C3,4,5,6,7,8");
        play("command(1,-1) = BAD_VALUE; command(1,0) = 3; command(1,8) = 6; command(1,9) = BAD_VALUE; command(1,MIN) = BAD_VALUE; command(1,MAX) = BAD_VALUE");
        play("command(0,-1) = BAD_VALUE; command(0,8) = NONE; command(0,9) = BAD_VALUE");
    }

    private static void dueCommand(int command, int... properties) {
        for (int what = 0; what < properties.length; what++) due(properties[what], "command", command, what);
    }

    private static void setTolerance() {
        promise(9);
        says("Sets the tolerance.", "Returns the previous tolerance;");
        path("M0,0Q0,0,40,0");
        play("measure(0,1) = 2; setTolerance(9) = 4; measure(0,1) = 2; setTolerance(10) = 9; measure(0,1) = 1; setTolerance(9) = 10; measure(0,1) = 2; count(2) = 9");

        says("- `tolerance`: 1 to 1000", "BAD_VALUE if tolerance is out of range.");
        play("setTolerance(0) = BAD_VALUE; setTolerance(1) = 4; setTolerance(1000) = 1; setTolerance(1001) = BAD_VALUE; count(2) = 1000");
        play("setTolerance(-1) = BAD_VALUE; setTolerance(MIN) = BAD_VALUE; setTolerance(MAX) = BAD_VALUE; setTolerance(7) = 1000");
    }

    private static void reverse() {
        promise(10);
        says("Reverses a contour: the same curves, in the opposite order and direction.");
        path("M0,0L1,2Q3,4,5,6C7,8,9,10,11,12");
        play("reverse(0) = 4");
        duePath("M11,12C9,10,7,8,5,6Q3,4,1,2L0,0");
        path("M5,5L6,6M0,0L3,4L3,9M7,7L8,8Z");
        play("vertex(1,0,1) = 0; reverse(1) = 3; vertex(1,0,1) = 9; vertex(1,1,2) = 80; measure(1,2) = 160");
        duePath("M5,5L6,6M3,9L3,4L0,0M7,7L8,8Z");

        says("It begins at the end point of its last command (for a closed contour, of the last command before the CLOSE), and is closed if it was.");
        path("M0,0L1,0L1,1");
        play("reverse(0) = 3; measure(0,3) = 0");
        duePath("M1,1L1,0L0,0");
        path("M0,0L1,0L1,1Z");
        play("reverse(0) = 4; measure(0,3) = 1; command(3,3) = 1; command(3,4) = 1; vertex(0,0,0) = 1; vertex(0,3,1) = 1");
        duePath("M1,1L1,0L0,0Z");
        // A contour that is no more than its MOVE begins and ends there.
        path("M1,2M3,4ZM5,6");
        play("reverse(0) = 1; reverse(1) = 2; reverse(2) = 1; measure(0,3) = 0; measure(1,3) = 1");
        duePath("M1,2M3,4ZM5,6");
        path("M0,0Q1,2,3,4Z");
        play("reverse(0) = 3");
        duePath("M3,4Q1,2,0,0Z");
        path("M0,0C1,2,3,4,5,6Z");
        play("reverse(0) = 3; reverse(0) = 3");
        duePath("M0,0C1,2,3,4,5,6Z");

        says("- `contour`: the contour", "Returns the number of its commands;");
        path("M0,0L1,1ZM2,2L3,3L4,4");
        play("reverse(0) = 3; reverse(1) = 3; removeLast(); reverse(1) = 2; count(0) = 5");
        fresh();
        fill(24);
        play("reverse(0) = 24; count(0) = 24");

        says("NO_SUCH if there is no such contour.");
        play("reverse(0) = NO_SUCH; reverse(-1) = NO_SUCH");
        path("M0,0L1,1M2,2");
        play("reverse(-1) = NO_SUCH; reverse(0) = 2; reverse(1) = 1; reverse(2) = NO_SUCH; reverse(MIN) = NO_SUCH; reverse(MAX) = NO_SUCH");
        duePath("M1,1L0,0M2,2");
    }

    private static void transform() {
        promise(11);
        says("Transforms all points (x, y) of the path to (((a * x + c * y) >> 8) + e, ((b * x + d * y) >> 8) + f).", "Returns the number of commands;");
        path("M10,20L30,-40Q1,2,3,4C5,6,7,8,9,10ZM100,200");
        play("transform(256,512,768,1024,5,-7) = 6");
        // x + 3 * y + 5, 2 * x + 4 * y - 7
        duePath("M75,93L-85,-107Q12,3,20,15C28,27,36,39,44,51ZM705,993");
        play("command(4,3) = 75; command(4,4) = 93; vertex(1,0,0) = 705");
        // Rounded down before e and f are added.
        path("M1,-1");
        play("transform(255,0,0,255,10,10) = 1");
        duePath("M10,9");
        path("M1,-1");
        play("transform(-255,0,0,-256,-10,-10) = 1");
        duePath("M-11,-9");
        // The sum is rounded, not each of its products.
        path("M1,1");
        play("transform(128,127,128,128,0,0) = 1");
        duePath("M1,0");
        fresh();
        play("transform(1,2,3,4,5,6) = 0; count(0) = 0");
        // What is asked before and behind it: the vertices are transformed as well.
        path("M0,0L3,4");
        play("measure(0,2) = 80; transform(512,0,0,512,1,2) = 2; measure(0,2) = 160; vertex(0,1,0) = 7; vertex(0,1,1) = 10");
        fresh();
        fill(24);
        play("transform(256,0,0,256,1,1) = 24; command(0,3) = 2; command(23,3) = 2; command(23,4) = 3; transform(256,0,0,256,3999,0) = NOT_POSSIBLE");

        says("- `a`: -1024 to 1024", "- `b`: -1024 to 1024", "- `c`: -1024 to 1024", "- `d`: -1024 to 1024", "- `e`: -8000 to 8000", "- `f`: -8000 to 8000", "BAD_VALUE if an argument is out of range;");
        for (int i = 0; i < 6; i++) {
            int most = i < 4 ? 1024 : 8000;
            int[] n = new int[6];
            for (int bad : new int[] {-most - 1, most + 1, Integer.MIN_VALUE, Integer.MAX_VALUE}) {
                n[i] = bad;
                due(BAD_VALUE, "transform", n);
            }
            n[i] = -most;
            due(0, "transform", n);
            n[i] = most;
            due(0, "transform", n);
        }
        path("M1000,1");
        play("transform(1024,-1024,0,0,0,0) = 1; command(0,3) = 4000; command(0,4) = -4000");
        path("M1,-1000");
        play("transform(0,0,-1024,1024,0,0) = 1; command(0,3) = 4000; command(0,4) = -4000");
        path("M-4000,4000");
        play("transform(256,0,0,256,8000,-8000) = 1; command(0,3) = 4000; command(0,4) = -4000");
        play("transform(256,0,0,256,-8000,8000) = 1; command(0,3) = -4000; command(0,4) = 4000");

        says("NOT_POSSIBLE if a coordinate would be out of range.");
        path("M3999,-3999");
        play("transform(256,0,0,256,1,-1) = 1; transform(256,0,0,256,1,0) = NOT_POSSIBLE; transform(256,0,0,256,0,-1) = NOT_POSSIBLE");
        duePath("M4000,-4000");
        path("M-3999,3999");
        play("transform(256,0,0,256,-1,1) = 1; transform(256,0,0,256,-1,0) = NOT_POSSIBLE; transform(256,0,0,256,0,1) = NOT_POSSIBLE");
        duePath("M-4000,4000");
        // -4000 - 1 / 256 is rounded down to -4001, and 4000 + 255 / 256 to 4000.
        path("M-4000,1");
        play("transform(256,0,-1,0,0,0) = NOT_POSSIBLE; transform(256,0,0,0,0,0) = 1");
        path("M4000,1");
        play("transform(256,0,256,0,0,0) = NOT_POSSIBLE; transform(256,0,255,0,0,0) = 1; command(0,3) = 4000");
        // Any point of any command counts.
        for (String text : new String[] {"M1,0M0,0", "M0,0L1,0", "M0,0Q1,0,0,0", "M0,0Q0,0,1,0", "M0,0C1,0,0,0,0,0", "M0,0C0,0,1,0,0,0", "M0,0C0,0,0,0,1,0"}) {
            path(text);
            play("transform(256,0,0,256,4000,0) = NOT_POSSIBLE; transform(256,0,0,256,3999,4000) = 2");
            path(text);
            play("transform(0,256,256,0,0,4000) = NOT_POSSIBLE; transform(0,-256,-256,0,0,-4000) = NOT_POSSIBLE");
            duePath(text);
        }
        // The shift alone may go farther than the coordinates.
        path("M0,0");
        play("transform(256,0,0,256,4000,-4000) = 1; transform(256,0,0,256,-8000,8000) = 1; transform(256,0,0,256,8000,0) = 1; transform(256,0,0,256,1,0) = NOT_POSSIBLE");
    }
}
