// The sentences of the promises 35 to 37.
final class SavingEdges extends Edges {
    static void run() {
        count();
        save();
        restore();
    }

    private static void count() {
        promise(35);
        says("Returns a number.", "- `what`: 0 for the number of commands, 1 of contours, 2 for the tolerance, 3 for the length of the pad, 4 for the number of letters of the lettering, 5 for the number of lengths of the dash pattern, 6 for the number of pairs with a kerning", "Returns the number;");
        play("count(0) = 0; count(1) = 0; count(2) = 4; count(3) = 0; count(4) = 0; count(5) = 0; count(6) = 0");
        path("M0,0L1,1ZM2,2");
        say("M1,1x");
        write(6);
        fillPattern(3);
        fillPairs(2);
        play("setTolerance(17); count(0) = 4; count(1) = 2; count(2) = 17; count(3) = 5; count(4) = 6; count(5) = 3; count(6) = 2");
        fresh();
        fill(24);
        fillPad(120);
        write(24);
        fillPattern(6);
        fillPairs(20);
        play("setTolerance(1000); count(0) = 24; count(1) = 1; count(2) = 1000; count(3) = 120; count(4) = 24; count(5) = 6; count(6) = 20");
        fresh();
        for (int i = 1; i <= 24; i++) due(i, "move", 0, 0);
        play("count(1) = 24; measure(23,0) = 1; measure(24,0) = NO_SUCH; measure(-1,0) = 24");

        says("BAD_VALUE if what is not 0 to 6.");
        play("count(-1) = BAD_VALUE; count(0) = 0; count(6) = 0; count(7) = BAD_VALUE; count(MIN) = BAD_VALUE; count(MAX) = BAD_VALUE");
    }

    private static void save() {
        promise(36);
        says("Saves the path and the tolerance in a slot, and overwrites what was saved there.", "Returns the number of commands;");
        path("M0,0Q0,0,40,0");
        play("setTolerance(9); save(0) = 2; move(1,1); setTolerance(10); save(1) = 3; removeLast(); removeLast(); setTolerance(1)");
        play("restore(0) = 2; count(2) = 9; measure(0,1) = 2; restore(1) = 3; count(2) = 10; measure(0,1) = 1; count(1) = 2");
        play("removeLast(); removeLast(); save(1) = 1; restore(0) = 2; restore(1) = 1; count(2) = 10; spell(-1) = 4");
        play("removeLast(); save(0) = 0; move(5,5); restore(0) = 0; count(0) = 0; spell(-1) = 0");
        fresh();
        fill(24);
        play("save(0) = 24; save(1) = 24; removeLast(); restore(1) = 24");

        says("- `slot`: 0 or 1", "BAD_VALUE if the slot does not exist.");
        play("save(-1) = BAD_VALUE; save(0) = 0; save(1) = 0; save(2) = BAD_VALUE; save(MIN) = BAD_VALUE; save(MAX) = BAD_VALUE");
    }

    private static void restore() {
        promise(37);
        says("Restores the path and the tolerance that were saved last in a slot, which keeps them.", "Returns the number of commands;");
        path("M0,0L3,4Q5,6,7,8C1,2,3,4,5,6ZM7,7");
        play("setTolerance(30); save(0) = 6; reverse(0); transform(128,0,0,128,1,1); setTolerance(2); removeLast()");
        play("restore(0) = 6; count(2) = 30; measure(0,3) = 1; count(1) = 2");
        duePath("M0,0L3,4Q5,6,7,8C1,2,3,4,5,6ZM7,7");
        // What is done to the path behind the call does not reach the slot.
        play("line(8,8); transform(256,0,0,256,1,1); setTolerance(1); restore(0) = 6; count(2) = 30");
        duePath("M0,0L3,4Q5,6,7,8C1,2,3,4,5,6ZM7,7");
        // All else stays: the pad, the letters, the pattern, the kernings.
        say("M1,1");
        write(3);
        fillPattern(2);
        fillPairs(4);
        play("restore(0) = 6; count(3) = 4; count(4) = 3; count(5) = 2; count(6) = 4");

        says("- `slot`: 0 or 1", "BAD_VALUE if the slot does not exist;");
        play("save(0); save(1); restore(-1) = BAD_VALUE; restore(0) = 0; restore(1) = 0; restore(2) = BAD_VALUE; restore(MIN) = BAD_VALUE; restore(MAX) = BAD_VALUE");

        says("NOT_POSSIBLE if nothing was saved in it.");
        play("restore(0) = NOT_POSSIBLE; restore(1) = NOT_POSSIBLE; save(1) = 0; restore(0) = NOT_POSSIBLE; restore(1) = 0; save(0) = 0; restore(0) = 0");
        fresh();
        play("move(0,0); save(0) = 1; restore(1) = NOT_POSSIBLE; count(0) = 1; restore(0) = 1");
    }
}
