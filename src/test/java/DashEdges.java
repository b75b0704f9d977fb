// The sentences of the promises 25 to 27.
final class DashEdges extends Edges {
    static void run() {
        addDash();
        clearDashes();
        dash();
        mostDashes();
    }

    private static void addDash() {
        promise(25);
        says("Appends a length to the dash pattern.", "Returns the number of lengths then;");
        path("M0,0L10,0");
        play("addDash(30) = 1; addDash(40) = 2; count(5) = 2; dash(0,0,1) = 30; dash(0,1,0) = 70");
        play("addDash(5) = 3; addDash(6) = 4; dash(0,1,0) = 70; dash(0,1,1) = 75; dash(0,2,0) = 81");

        says("- `length`: 1 to 100000", "BAD_VALUE if length is out of range;");
        path("M0,0L4000,0L-4000,0");
        play("addDash(0) = BAD_VALUE; addDash(1) = 1; addDash(100000) = 2; addDash(100001) = BAD_VALUE; addDash(-1) = BAD_VALUE; addDash(MIN) = BAD_VALUE; addDash(MAX) = BAD_VALUE");
        play("count(5) = 2; dash(0,-1,0) = 2; dash(0,0,1) = 1; dash(0,1,0) = 100001");

        says("TOO_MANY if there are 6 lengths.");
        fillPattern(5);
        play("addDash(1) = 6; addDash(1) = TOO_MANY; count(5) = 6; clearDashes(0) = 6; addDash(1) = 1");
    }

    private static void clearDashes() {
        promise(26);
        says("Removes all lengths from the dash pattern, and sets the phase.", "Returns the number of lengths that were removed;");
        path("M0,0L10,0");
        play("clearDashes(0) = 0; addDash(50); clearDashes(0) = 1; count(5) = 0; addDash(50); addDash(60); dash(0,1,0) = 110; clearDashes(20) = 2; dash(0,-1,0) = NOT_POSSIBLE");
        play("addDash(50); addDash(60); dash(0,0,1) = 30; dash(0,1,0) = 90; clearDashes(0) = 2");
        fillPattern(6);
        play("clearDashes(0) = 6; clearDashes(0) = 0; addDash(50); addDash(60); dash(0,0,1) = 50");

        says("- `phase`: 0 to 100000; 0 initially", "BAD_VALUE if phase is out of range.");
        path("M0,0L10,0");
        play("addDash(7); addDash(4); dash(0,0,0) = 0; dash(0,0,1) = 7");
        play("clearDashes(-1) = BAD_VALUE; clearDashes(100001) = BAD_VALUE; clearDashes(MIN) = BAD_VALUE; clearDashes(MAX) = BAD_VALUE; count(5) = 2; dash(0,0,1) = 7");
        // 100000 is 9090 * 11 + 10: the first dash begins at -10 + 11.
        play("clearDashes(100000) = 2; addDash(7); addDash(4); dash(0,0,0) = 1; dash(0,0,1) = 8");
        play("clearDashes(1) = 2; addDash(7); addDash(4); dash(0,0,0) = 0; dash(0,0,1) = 6; clearDashes(0) = 2; addDash(7); addDash(4); dash(0,0,1) = 7");
        play("clearDashes(100000) = 2; addDash(100000); addDash(1); dash(0,0,0) = 1; clearDashes(99999) = 2; addDash(100000); addDash(1); dash(0,0,0) = 0; dash(0,0,1) = 1; dash(0,1,0) = 2");
    }

    private static void dash() {
        promise(27);
        says("Returns a dash of a contour.", "- `index`: -1 for the number of dashes, otherwise the index of a dash", "- `what`: 0 for the distance at which the dash begins, 1 for the one at which it ends", "Returns the number, or the distance;");
        path("M0,0L10,0M0,0L0,20M5,5");
        play("addDash(50); addDash(30)");
        dueDashes(0, 0, 50, 80, 130);
        dueDashes(1, 0, 50, 80, 130, 160, 210, 240, 290);
        dueDashes(2);

        says("NONE if there is no such dash;");
        path("M0,0L10,0M5,5");
        play("addDash(50); addDash(30); dash(0,-2,0) = NONE; dash(0,0,0) = 0; dash(0,1,0) = 80; dash(0,2,0) = NONE; dash(0,2,1) = NONE; dash(0,MIN,0) = NONE; dash(0,MAX,1) = NONE");
        play("dash(1,-1,0) = 0; dash(1,0,0) = NONE; dash(1,-2,1) = NONE");
        // What an earlier call has found is forgotten.
        play("clearDashes(0); addDash(150); addDash(50); dash(0,0,1) = 150; dash(0,1,0) = NONE");

        says("- `contour`: the contour", "NO_SUCH if there is no such contour;");
        play("addDash(50); addDash(30); dash(0,-1,0) = NO_SUCH");
        load("M0,0L10,0M0,0L10,0");
        play("dash(-1,-1,0) = NO_SUCH; dash(0,-1,0) = 2; dash(1,-1,0) = 2; dash(2,-1,0) = NO_SUCH; dash(MIN,-1,0) = NO_SUCH; dash(MAX,-1,0) = NO_SUCH");

        says("BAD_VALUE if what is neither 0 nor 1;");
        path("M0,0L10,0");
        play("addDash(50); addDash(30); dash(0,0,-1) = BAD_VALUE; dash(0,0,0) = 0; dash(0,0,1) = 50; dash(0,0,2) = BAD_VALUE; dash(0,-1,-1) = BAD_VALUE; dash(0,-1,2) = BAD_VALUE; dash(0,0,MIN) = BAD_VALUE; dash(0,0,MAX) = BAD_VALUE");

        says("NOT_POSSIBLE if the dash pattern is empty, or has an odd number of lengths;");
        path("M0,0L10,0M5,5");
        play("dash(0,-1,0) = NOT_POSSIBLE; dash(1,-1,0) = NOT_POSSIBLE");
        for (int lengths = 1; lengths <= 6; lengths++) {
            ask("addDash", 40);
            due(lengths % 2 == 0 ? 2 : NOT_POSSIBLE, "dash", 0, -1, 0);
            due(lengths % 2 == 0 ? 0 : NOT_POSSIBLE, "dash", 0, 0, 0);
            due(lengths % 2 == 0 ? NONE : NOT_POSSIBLE, "dash", 0, 5, 0);
        }
        play("clearDashes(0); dash(0,-1,0) = NOT_POSSIBLE");
    }

    private static void mostDashes() {
        says("TOO_MANY if there are more than 1000 dashes.");
        // 128000 and 128016 sixteenths: 1000 periods of 128, and the begin of one more.
        path("M-4000,0L4000,0M-4000,0L4000,0L4000,1M0,0L9,0");
        DescriptionEdges.pattern(0, 1, 127);
        play("dash(0,-1,0) = 1000; dash(0,999,0) = 127872; dash(0,999,1) = 127873; dash(0,1000,0) = NONE; dash(0,-2,0) = NONE");
        play("dash(1,-1,0) = TOO_MANY; dash(1,0,0) = TOO_MANY; dash(1,999,1) = TOO_MANY; dash(1,1000,0) = TOO_MANY; dash(1,1001,0) = TOO_MANY; dash(1,-2,0) = TOO_MANY; dash(2,-1,1) = 2");
        // With the phase 127 the dashes begin at 1; with 1 and dashes of 2, one more begins at 0.
        DescriptionEdges.pattern(127, 1, 127);
        play("dash(0,-1,0) = 1000; dash(0,0,0) = 1; dash(0,999,1) = 127874");
        DescriptionEdges.pattern(1, 2, 126);
        play("dash(0,-1,0) = TOO_MANY; dash(0,0,0) = TOO_MANY");
        DescriptionEdges.pattern(1, 1, 127);
        play("dash(0,-1,0) = 1000; dash(0,0,0) = 127");
        // Two dashes in a period of 128, on 64000 and 64016 sixteenths.
        path("M0,0L4000,0M0,0L4000,0L4000,1");
        DescriptionEdges.pattern(0, 1, 63, 1, 63);
        play("dash(0,-1,0) = 1000; dash(0,999,0) = 63936; dash(1,-1,0) = TOO_MANY");
        DescriptionEdges.pattern(0, 1, 62, 1, 64);
        play("dash(0,-1,0) = 1000; dash(0,999,0) = 63935; dash(1,-1,0) = TOO_MANY");
        // As many as there can be: the longest contour, and a period of 2.
        fresh();
        play("move(-4000,-4000)");
        while (ask("count", 0) < 24) play(ask("count", 0) % 2 == 1 ? "line(4000,4000)" : "line(-4000,-4000)");
        DescriptionEdges.pattern(100000, 1, 1);
        play("measure(0,2) = 4163437; dash(0,-1,0) = TOO_MANY; dash(0,MAX,0) = TOO_MANY");
        DescriptionEdges.pattern(0, 100000, 100000);
        play("dash(0,-1,0) = 21; dash(0,20,1) = 4100000");
    }
}
