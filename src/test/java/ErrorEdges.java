import java.util.ArrayList;
import java.util.List;

// What the description says of all errors: their order, that they change nothing, and NONE.
final class ErrorEdges extends Edges {
    // How an object is made ready, and calls that fail on it: "call = error".
    private record Failing(String kind, String... calls) { }

    // Calls to which two errors or more apply at once; the first one in the document's order is due.
    private static final Failing[] SEVERAL = {
        new Failing("empty", "line(4001,0) = BAD_VALUE", "quad(0,0,0,-4001) = BAD_VALUE", "cubic(0,0,0,0,-4001,0) = BAD_VALUE",
            "command(0,9) = NO_SUCH", "command(-1,-1) = NO_SUCH", "measure(0,4) = NO_SUCH", "vertex(0,0,3) = NO_SUCH",
            "at(0,0,5) = NO_SUCH", "at(0,-1,0) = NO_SUCH", "nearest(4001,0,0) = BAD_VALUE", "nearest(0,0,4) = BAD_VALUE",
            "bound(-1,4) = NO_SUCH", "bound(0,4) = NO_SUCH", "simplified(0,-1,-1) = NO_SUCH", "simplified(0,1001,5) = NO_SUCH",
            "dash(0,-1,2) = NO_SUCH", "dash(0,-1,0) = NO_SUCH", "dash(0,0,0) = NO_SUCH", "setWidth(26,0) = NO_SUCH", "setWidth(-1,4001) = NO_SUCH",
            "setKerning(26,0,501) = NO_SUCH", "setKerning(0,-1,-501) = NO_SUCH", "letter(0,0,5) = NO_SUCH", "placed(0,2) = NO_SUCH",
            "restore(2) = BAD_VALUE", "restore(-1) = BAD_VALUE"),
        new Failing("rich", "vertex(0,9,3) = NO_SUCH", "vertex(9,0,-1) = NO_SUCH", "at(0,-1,5) = BAD_VALUE", "at(0,99999,-1) = BAD_VALUE", "at(9,-1,5) = NO_SUCH",
            "command(99,9) = NO_SUCH", "measure(-2,-1) = NO_SUCH", "bound(-2,4) = NO_SUCH", "simplified(9,1001,9) = NO_SUCH", "simplified(0,1001,9) = BAD_VALUE", "simplified(0,-1,-2) = BAD_VALUE",
            "dash(9,9,9) = NO_SUCH", "dash(0,99,2) = BAD_VALUE", "dash(0,-2,-1) = BAD_VALUE", "letter(9,0,5) = NO_SUCH", "letter(0,9,5) = NO_SUCH", "letter(0,2,5) = BAD_VALUE", "letter(0,2,-1) = BAD_VALUE",
            "placed(9,2) = NO_SUCH", "transform(1025,0,0,0,4001,0) = BAD_VALUE", "transform(256,0,0,256,4000,8001) = BAD_VALUE"),
        new Failing("point", "at(0,0,5) = BAD_VALUE", "at(0,1,-1) = BAD_VALUE", "nearest(0,0,-1) = BAD_VALUE", "nearest(0,4001,0) = BAD_VALUE",
            "dash(0,0,2) = BAD_VALUE", "dash(0,-2,0) = NOT_POSSIBLE", "dash(0,7,1) = NOT_POSSIBLE", "letter(0,0,5) = BAD_VALUE"),
        new Failing("full", "move(4001,0) = BAD_VALUE", "line(0,4001) = BAD_VALUE", "quad(4001,0,0,0) = BAD_VALUE", "cubic(0,4001,0,0,0,0) = BAD_VALUE",
            "say(127) = BAD_VALUE", "say(32) = BAD_VALUE", "addDash(0) = BAD_VALUE", "addDash(100001) = BAD_VALUE", "write(26) = NO_SUCH", "write(-1) = NO_SUCH",
            "setKerning(26,0,1) = NO_SUCH", "setKerning(0,26,1) = NO_SUCH", "setKerning(25,25,501) = BAD_VALUE", "setKerning(25,25,-501) = BAD_VALUE", "setKerning(26,25,501) = NO_SUCH"),
        new Failing("closed", "move(0,4001) = BAD_VALUE", "line(0,0) = NOT_POSSIBLE", "quad(0,0,0,0) = NOT_POSSIBLE", "cubic(0,0,0,0,0,0) = NOT_POSSIBLE", "close() = NOT_POSSIBLE",
            "line(4001,0) = BAD_VALUE", "quad(0,4001,0,0) = BAD_VALUE", "cubic(4001,0,0,0,0,0) = BAD_VALUE"),
        new Failing("pad M4000,0l1,0" + "l0,0".repeat(23) + "L", "load() = BAD_TEXT"),
        new Failing("pad M4000,0l1,0" + "l0,0".repeat(23), "load() = TOO_MANY"),
        new Failing("pad M4000,0l1,0" + "l0,0".repeat(22), "load() = NOT_POSSIBLE"),
        new Failing("pad M4000,0l1,0L", "load() = BAD_TEXT"),
    };

    // Calls to which one error applies.
    private static final Failing[] SINGLE = {
        new Failing("empty", "line(0,0) = NOT_POSSIBLE", "quad(0,0,0,0) = NOT_POSSIBLE", "cubic(0,0,0,0,0,0) = NOT_POSSIBLE", "close() = NOT_POSSIBLE", "removeLast() = NOT_POSSIBLE",
            "move(4001,0) = BAD_VALUE", "load() = BAD_TEXT", "reverse(0) = NO_SUCH", "transform(1025,0,0,0,0,0) = BAD_VALUE", "restore(0) = NOT_POSSIBLE", "restore(1) = NOT_POSSIBLE", "save(2) = BAD_VALUE",
            "bound(-1,0) = NO_SUCH", "nearest(0,0,0) = NOT_POSSIBLE", "area(0) = GONE"),
        new Failing("rich", "move(4001,0) = BAD_VALUE", "move(0,-4001) = BAD_VALUE", "line(4001,0) = BAD_VALUE", "line(0,4001) = BAD_VALUE", "quad(0,0,4001,0) = BAD_VALUE", "cubic(0,0,0,0,0,4001) = BAD_VALUE",
            "command(-1,0) = NO_SUCH", "command(9,0) = NO_SUCH", "command(0,9) = BAD_VALUE", "setTolerance(0) = BAD_VALUE", "setTolerance(1001) = BAD_VALUE", "reverse(-1) = NO_SUCH", "reverse(2) = NO_SUCH",
            "transform(0,-1025,0,0,0,0) = BAD_VALUE", "transform(0,0,1025,0,0,0) = BAD_VALUE", "transform(0,0,0,1025,0,0) = BAD_VALUE", "transform(0,0,0,0,8001,0) = BAD_VALUE", "transform(0,0,0,0,0,-8001) = BAD_VALUE",
            "transform(256,0,0,256,4000,0) = NOT_POSSIBLE", "transform(256,0,0,256,0,-4000) = NOT_POSSIBLE", "transform(256,0,0,256,3881,0) = NOT_POSSIBLE", "say(32) = BAD_VALUE", "say(127) = BAD_VALUE", "load() = BAD_TEXT",
            "measure(2,0) = NO_SUCH", "measure(0,4) = BAD_VALUE", "vertex(2,0,0) = NO_SUCH", "vertex(0,99,0) = NO_SUCH", "vertex(0,0,3) = BAD_VALUE", "at(2,0,0) = NO_SUCH", "at(0,0,5) = BAD_VALUE", "at(0,-1,0) = NOT_POSSIBLE", "at(0,99999,0) = NOT_POSSIBLE",
            "nearest(4001,0,0) = BAD_VALUE", "nearest(0,0,4) = BAD_VALUE", "winding(0,4001) = BAD_VALUE", "area(2) = GONE", "bound(2,0) = NO_SUCH", "bound(0,4) = BAD_VALUE", "simplified(2,0,0) = NO_SUCH", "simplified(0,1001,0) = BAD_VALUE",
            "addDash(0) = BAD_VALUE", "addDash(100001) = BAD_VALUE", "clearDashes(-1) = BAD_VALUE", "clearDashes(100001) = BAD_VALUE", "dash(2,0,0) = NO_SUCH", "dash(0,0,2) = BAD_VALUE",
            "setWidth(26,5) = NO_SUCH", "setWidth(0,0) = BAD_VALUE", "setWidth(0,4001) = BAD_VALUE", "setKerning(26,0,5) = NO_SUCH", "setKerning(0,26,5) = NO_SUCH", "setKerning(0,1,501) = BAD_VALUE", "setKerning(0,1,-501) = BAD_VALUE",
            "write(26) = NO_SUCH", "write(-1) = NO_SUCH", "arrange(-20001,0,0) = BAD_VALUE", "arrange(7,1001,0) = BAD_VALUE", "arrange(7,7,4) = BAD_VALUE", "letter(2,0,0) = NO_SUCH", "letter(0,9,0) = NO_SUCH", "letter(0,0,5) = BAD_VALUE",
            "placed(2,0) = NO_SUCH", "placed(0,2) = BAD_VALUE", "count(7) = BAD_VALUE", "save(2) = BAD_VALUE", "save(-1) = BAD_VALUE", "restore(2) = BAD_VALUE", "restore(1) = NOT_POSSIBLE"),
        new Failing("point", "at(0,0,0) = NOT_POSSIBLE", "nearest(0,0,0) = NOT_POSSIBLE", "dash(0,-1,0) = NOT_POSSIBLE"),
        new Failing("full", "move(0,0) = TOO_MANY", "line(0,0) = TOO_MANY", "quad(0,0,0,0) = TOO_MANY", "cubic(0,0,0,0,0,0) = TOO_MANY", "close() = TOO_MANY", "say(77) = TOO_MANY", "addDash(1) = TOO_MANY", "write(0) = TOO_MANY",
            "setKerning(25,25,1) = TOO_MANY", "load() = BAD_TEXT"),
        new Failing("closed", "line(0,0) = NOT_POSSIBLE", "quad(0,0,0,0) = NOT_POSSIBLE", "cubic(0,0,0,0,0,0) = NOT_POSSIBLE", "close() = NOT_POSSIBLE", "move(0,0) = TOO_MANY"),
        new Failing("pad M0,0" + "l0,0".repeat(24), "load() = TOO_MANY"),
        new Failing("pad M4000,0l1,0", "load() = NOT_POSSIBLE"),
        new Failing("pad M1,1L2,2Q3,3", "load() = BAD_TEXT"),
        new Failing("dashes", "dash(0,-1,0) = TOO_MANY", "dash(0,0,1) = TOO_MANY"),
        new Failing("odd", "dash(0,-1,0) = NOT_POSSIBLE"),
    };

    static void run() {
        section("Description");
        order();
        nothingChanged();
        none();
    }

    private static void makeReady(String kind) {
        fresh();
        switch (kind) {
            case "empty" -> { }
            case "rich" -> rich();
            case "point" -> play("move(5,5); line(5,5); write(0); arrange(-80,0,0); addDash(5)");
            case "full" -> full();
            case "closed" -> {
                fill(23);
                play("close()");
            }
            case "dashes" -> play("move(0,0); line(4000,0); addDash(1); addDash(1)");
            case "odd" -> play("move(0,0); line(4000,0); addDash(1); addDash(1); addDash(1)");
            default -> {
                play("move(3,3); line(9,9); quad(1,2,3,4); save(0)");
                say(kind.substring("pad ".length()));
            }
        }
    }

    private static void rich() {
        play("setTolerance(7); move(1,2); line(3,4); save(0); removeLast(); line(100,0); quad(120,50,100,100); close(); move(10,10); line(50,-10); setTolerance(5)");
        play("clearDashes(12); addDash(30); addDash(10); setWidth(0,90); setWidth(25,3); setKerning(0,1,-20); setKerning(1,0,15)");
        // The third letter is not placed on the first contour.
        play("write(0); write(1); write(2); setWidth(2,4000); arrange(5,800,0)");
        say("M1,1L2");
    }

    private static void full() {
        fill(24);
        fillPad(120);
        fillPattern(6);
        write(24);
        fillPairs(20);
    }

    private static void order() {
        says("It names its errors in the order in which they are checked, and the first that applies is returned.");
        for (Failing failing : SEVERAL) {
            makeReady(failing.kind);
            for (String call : failing.calls) play(call);
        }
        // More than 1000 dashes, and a bad what or no such contour.
        makeReady("dashes");
        play("dash(0,-1,2) = BAD_VALUE; dash(1,-1,0) = NO_SUCH; dash(0,-1,0) = TOO_MANY; dash(0,MAX,0) = TOO_MANY; dash(0,-2,1) = TOO_MANY");
        makeReady("odd");
        play("dash(0,-1,2) = BAD_VALUE; dash(1,-1,0) = NO_SUCH; dash(0,0,-1) = BAD_VALUE; dash(0,MAX,0) = NOT_POSSIBLE");
    }

    // Each failing call on an object of its own, beside a twin that does without it: both then
    // answer the same to everything.
    private static void nothingChanged() {
        says("A call that returns an error code changes nothing.");
        for (Failing[] table : new Failing[][] {SINGLE, SEVERAL}) {
            for (Failing failing : table) {
                makeReady(failing.kind);
                List<Long> without = allAnswers();
                for (String call : failing.calls) {
                    makeReady(failing.kind);
                    play(call);
                    List<Long> with = allAnswers();
                    holds(call + " changes nothing on " + failing.kind, with.equals(without));
                }
            }
        }
        // All of them, one behind another, on the same object.
        makeReady("rich");
        List<Long> without = allAnswers();
        makeReady("rich");
        for (String call : SINGLE[1].calls) play(call);
        holds("all of them change nothing", allAnswers().equals(without));
    }

    // What an object answers about all that it holds; to find that out, it is taken apart.
    private static List<Long> allAnswers() {
        List<Long> all = new ArrayList<>();
        for (int what = 0; what < 7; what++) all.add(ask("count", what));
        for (int what = 0; what < 4; what++) all.add(ask("measure", -1, what));
        addPath(all);
        for (int index = 0; index < 3; index++) {
            all.add(ask("letter", 0, index, 1));
            all.add(ask("dash", 0, index, 1));
        }
        all.add(ask("dash", 0, -1, 0));
        all.add(ask("fault"));
        for (int slot = 0; slot < 2; slot++) {
            all.add(ask("restore", slot));
            all.add(ask("count", 2));
            addPath(all);
        }
        all.add(ask("load"));
        addPath(all);
        all.add(ask("wipe"));
        all.add(ask("setTolerance", 1));
        for (int letter = 0; letter < 26; letter++) all.add(ask("setWidth", letter, 10));
        for (int letter = 0; letter < 21; letter++) all.add(ask("setKerning", letter, 25, 0));
        addKernings(all);
        all.add(ask("erase"));
        all.add(ask("clearDashes", 0));
        return all;
    }

    private static void addPath(List<Long> all) {
        all.add(ask("spell", -1));
        for (int command = 0; command < 6; command++) {
            for (int what = 2; what < 5; what++) all.add(ask("command", command, what));
        }
    }

    // The steps from letter to letter, on a contour where each has a place.
    private static void addKernings(List<Long> all) {
        while (ask("count", 0) > 0) ask("removeLast");
        play("move(-4000,0); line(4000,0)");
        for (int index = 0; index < 4; index++) all.add(ask("letter", 0, index, 1));
    }

    private static void none() {
        says("NONE (-6 + LIMIT) is not an error; it means \"there is none\" and is returned only if no error applies.");
        holds("NONE", PathFlattener.NONE == -6 + PathFlattener.LIMIT);
        play("fault() = 0; spell(0) = NONE; move(0,0); command(0,5) = NONE; command(0,9) = BAD_VALUE; command(1,5) = NO_SUCH");
        play("simplified(0,0,9) = NONE; simplified(0,0,-2) = NONE; simplified(0,1001,9) = BAD_VALUE; simplified(1,0,9) = NO_SUCH");
        play("dash(0,9,0) = NOT_POSSIBLE; addDash(5); dash(0,9,0) = NOT_POSSIBLE; addDash(5); dash(0,9,0) = NONE; dash(0,9,2) = BAD_VALUE; dash(1,9,0) = NO_SUCH");
        play("line(4000,0); dash(0,9999,0) = TOO_MANY; write(0); letter(0,0,0) = 0; arrange(-81,0,0); letter(0,0,0) = NONE; letter(0,0,5) = BAD_VALUE; letter(0,1,0) = NO_SUCH; letter(1,0,0) = NO_SUCH");
        dueFault("M1,1", NONE);
    }
}
