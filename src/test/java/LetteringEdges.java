// What the description says about lettering, and the sentences of the promises 28 to 34.
final class LetteringEdges extends Edges {
    private static final String[] WITHOUT_SEGMENTS = {"M5,5", "M5,5Z", "M5,5L5,5", "M5,5L5,5Z"};

    static void run() {
        letters();
        positions();
        hide();
        squeeze();
        round();
        moveOn();
        lying();
        setWidth();
        setKerning();
        write();
        erase();
        arrange();
        letter();
        placed();
        turnedBackward();
        placedBefore();
    }

    private static void letters() {
        section("Description");
        says("There are the letters a to z, with the numbers 0 to 25.");
        play("write(-1) = NO_SUCH; write(0) = 1; write(25) = 2; write(26) = NO_SUCH");
        play("setWidth(-1,5) = NO_SUCH; setWidth(0,5) = 160; setWidth(25,5) = 160; setWidth(26,5) = NO_SUCH");
        play("setKerning(-1,0,5) = NO_SUCH; setKerning(0,-1,5) = NO_SUCH; setKerning(26,0,5) = NO_SUCH; setKerning(0,26,5) = NO_SUCH; setKerning(0,25,5) = 1; setKerning(25,0,5) = 2");

        says("A letter has a width, 160 initially.");
        for (int i = 0; i < 26; i++) due(160, "setWidth", i, 100 + i);
        for (int i = 0; i < 26; i++) due(100 + i, "setWidth", i, 7);

        says("A pair of letters can have a kerning.");
        path("M0,0L100,0");
        play("setKerning(0,1,5) = 1; write(0); write(1); write(0); write(0)");
        dueCenters(0, 80, 245, 405, 565);
        play("setKerning(0,0,-7) = 2");
        dueCenters(0, 80, 245, 405, 558);

        says("The lettering is a sequence of up to 24 letters, which is empty initially, and has an offset (0 initially), a spacing (0), and an overflow mode, HIDE (0, initially), SQUEEZE (1), ROUND (2) or MOVE_ON (3).");
        path("M0,0L9,0ZM0,0L100,0");
        play("count(4) = 0; placed(0,0) = 0; letter(0,0,0) = NO_SUCH");
        write(3);
        // On a closed contour of 288, each mode places the third letter elsewhere.
        dueCenters(0, 80, 240, NONE);
        play("arrange(0,0,0) = 3");
        dueCenters(0, 80, 240, NONE);
        play("arrange(0,0,1) = 3");
        dueCenters(0, 48, 144, 240);
        play("arrange(0,0,2) = 3");
        dueCenters(0, 80, 240, 112);
        play("arrange(0,0,3) = 3");
        dueCenters(0, 80, 80, 240);
        dueHomes(0, 0, 1, 1);
        for (int i = 4; i <= 24; i++) due(i, "write", 0);
        play("write(0) = TOO_MANY; count(4) = 24");
        // All 24 are laid, the last one too: 23 * 160 + 80 is 3760, of a length of 288 and one of 4000.
        load("M0,0L9,0ZM0,0L250,0");
        play("arrange(0,0,0); placed(0,0) = 2; placed(1,0) = 24; letter(1,23,1) = 3760");
        play("arrange(0,0,1); placed(0,0) = 24; letter(0,23,1) = 282");
        play("arrange(0,0,2); placed(0,0) = 24; letter(0,23,1) = 16");
        play("arrange(0,0,3); placed(0,0) = 24; letter(0,23,0) = 1; letter(0,23,1) = 3600; placed(1,0) = 24; letter(1,23,1) = 3760");
    }

    private static void positions() {
        section("Description");
        says("The first letter begins at the position offset.");
        path("M0,0L100,0");
        write(1);
        play("letter(0,0,1) = 80; arrange(100,0,0); letter(0,0,1) = 180; arrange(-80,0,0); letter(0,0,1) = 0; arrange(1520,0,0); letter(0,0,1) = 1600; arrange(100,1000,0); letter(0,0,1) = 180");

        says("A letter that begins at p has its center at p + width / 2, and the next one begins at p + width + spacing + the kerning of both letters (0 if they have none).");
        path("M0,0L100,0");
        write(3);
        play("setWidth(0,7); letter(0,0,1) = 3; letter(0,1,1) = 87; setWidth(0,8); letter(0,0,1) = 4; letter(0,1,1) = 88; setWidth(0,1); letter(0,0,1) = 0; setWidth(0,7)");
        play("setKerning(0,1,-30); arrange(0,10,0)");
        // They begin at 0, at 7 + 10 - 30 and at -13 + 160 + 10.
        dueCenters(0, 3, 67, 237);
        play("setKerning(1,0,500); setKerning(0,2,400)");
        dueCenters(0, 3, 67, 237);
        play("setKerning(1,2,1); arrange(5,-100,0)");
        // 5, then 5 + 7 - 100 - 30, then -118 + 160 - 100 + 1.
        dueCenters(0, 8, NONE, 23);
        play("setKerning(0,1,0)");
        dueCenters(0, 8, NONE, 53);

        says("The end is the position at which a further letter without kerning and spacing would begin, that is, the beginning of the last letter plus its width.");
        // With a spacing of 10 the letters begin at 0, 170 and 340; the contour is 496 long.
        path("M0,0L31,0");
        write(3);
        play("setWidth(2,156); setKerning(2,0,500); setKerning(2,2,500); arrange(0,10,1)");
        dueCenters(0, 80, 250, 418);
        play("setWidth(2,157)");
        dueCenters(0, 80 * 496 / 497, 250 * 496 / 497, 418 * 496 / 497);
        dueCenters(0, 79, 249, 417);
        // The end is that of the last letter, though another one ends behind it.
        play("setWidth(2,1); setWidth(1,400); setKerning(1,2,-300); arrange(0,0,1)");
        // They begin at 0, 160 and 260, and end at 261: nothing is squeezed.
        dueCenters(0, 80, 360, 260);
    }

    private static void hide() {
        section("Description");
        says("The lettering is laid on a contour of length l:", "HIDE: A letter is placed at the distance of its center if this is from 0 to l; otherwise it is not placed.");
        path("M0,0L10,0");
        write(1);
        for (int[] one : new int[][] {{-81, NONE}, {-80, 0}, {-79, 1}, {79, 159}, {80, 160}, {81, NONE}, {-20000, NONE}, {100000, NONE}}) {
            ask("arrange", one[0], 0, 0);
            due(one[1], "letter", 0, 0, 1);
            due(one[1] == NONE ? 0 : 1, "placed", 0, 0);
        }
        // A closed contour hides, too.
        path("M0,0L5,0Z");
        write(2);
        dueCenters(0, 80, NONE);
        // One that is not placed does not keep the next one from it.
        play("arrange(-100,0,0)");
        dueCenters(0, NONE, 140);
    }

    private static void squeeze() {
        section("Description");
        says("SQUEEZE: As with HIDE, but if the end is greater than l and the offset is less than l, each center c is replaced by offset + (c - offset) * (l - offset) / (end - offset) first.");
        path("M0,0L20,0");
        write(2);
        dueSqueezed(0, 0, 80, 240);
        // The end is 321: 1 + 80 * 319 / 320 and 1 + 240 * 319 / 320.
        dueSqueezed(1, 0, 80, 240);
        dueSqueezed(2, 0, 81, 240);
        dueSqueezed(0, 1, 79, 240);
        dueSqueezed(0, -1, 80, 239);
        dueSqueezed(100, 0, 155, 265);
        dueSqueezed(319, 0, 319, 319);
        dueSqueezed(320, 0, NONE, NONE);
        dueSqueezed(321, 0, NONE, NONE);
        dueSqueezed(-100, 0, NONE, 140);
        // The offset is l, or beyond it: as with HIDE, where a center may still be within.
        play("setKerning(0,1,-500); setWidth(0,1)");
        dueSqueezed(320, 0, 320, NONE);
        dueSqueezed(500, 0, NONE, 81);
        play("setKerning(0,1,-260)");
        dueSqueezed(319, 0, 319, 140);
        // A letter before the offset: its way of -499 * 280 / 4002 is truncated toward 0.
        fresh();
        load("M0,0L20,0");
        write(3);
        play("setWidth(0,1); setWidth(1,1); setWidth(2,4000); setKerning(0,1,-500); setKerning(1,2,500)");
        dueSqueezed(40, 0, 40, 6, 180);
        // They end at -15998, within the length.
        dueSqueezed(-20000, 0, NONE, NONE, NONE);
        // 24 letters of 4000 end at 96000; 94000 * 80000 is far beyond the ints.
        fresh();
        load("M-4000,0L1000,0");
        for (int i = 0; i < 24; i++) ask("write", 0);
        play("setWidth(0,4000); arrange(0,0,1); letter(0,0,1) = 1666; letter(0,23,1) = 78333; letter(0,23,2) = 895; placed(0,0) = 24");
        // A negative offset: they begin at -300, 860 and 2020 and end at 6020.
        fresh();
        load("M0,0L200,0");
        write(3);
        play("setWidth(2,4000)");
        dueSqueezed(-300, 1000, NONE, 1240 * 3500 / 6320 - 300, 4320 * 3500 / 6320 - 300);
    }

    private static void dueSqueezed(int offset, int spacing, int... centers) {
        ask("arrange", offset, spacing, 1);
        dueCenters(0, centers);
    }

    private static void round() {
        section("Description");
        says("ROUND: If the contour is closed and l is not 0, each center is replaced by itself modulo l (0 to l - 1) first; otherwise as with HIDE.");
        path("M0,0L10,0ZM0,0L10,0");
        write(1);
        for (int[] one : new int[][] {{-81, 319}, {-80, 0}, {-79, 1}, {239, 319}, {240, 0}, {241, 1}, {-400, 0}, {-401, 319}, {560, 0}, {-20000, 240}, {100000, 240}}) {
            ask("arrange", one[0], 0, 2);
            due(one[1], "letter", 0, 0, 1);
            due(1, "placed", 0, 0);
        }
        // The other contour is open, and 160 long.
        for (int[] one : new int[][] {{-81, NONE}, {-80, 0}, {80, 160}, {81, NONE}, {240, NONE}, {-400, NONE}}) {
            ask("arrange", one[0], 0, 2);
            due(one[1], "letter", 1, 0, 1);
            due(one[1] == NONE ? 0 : 1, "placed", 1, 0);
        }
        // It is open, though it ends where it begins.
        path("M0,0L10,0L0,0");
        write(3);
        play("arrange(0,0,2)");
        dueCenters(0, 80, 240, NONE);
        play("close()");
        dueCenters(0, 80, 240, 80);
        play("removeLast()");
        dueCenters(0, 80, 240, NONE);
        // Another path is closed or open for itself.
        path("M0,0L10,0Z");
        write(3);
        play("arrange(0,0,2); letter(0,2,1) = 80");
        load("M0,0L10,0L0,0M0,0L10,0Z");
        play("letter(0,2,1) = NONE; letter(1,2,1) = 80");
        path("M5,5ZM5,5L5,5Z");
        write(1);
        play("arrange(-80,0,2); letter(0,0,1) = NONE; letter(1,0,1) = NONE; arrange(0,0,2); letter(0,0,1) = NONE; placed(1,0) = 0");
    }

    private static void moveOn() {
        section("Description");
        says("MOVE_ON: The letters are gone through in their order.", "A letter that would end (at its beginning plus its width) beyond the length of the present contour, or whose contour has no segments, makes all further letters, itself included, move to the next contour, where this letter begins at 0, until one is found on which it ends within the length.");
        // Their lengths: 320, none, 144, 1600.
        path("M0,0L20,0M0,5M0,9L9,9M0,20L100,20");
        write(3);
        play("arrange(0,0,3)");
        dueCenters(0, 80, 240, 80);
        dueHomes(0, 0, 0, 3);
        play("arrange(1,0,3)");
        dueCenters(0, 81, 80, 240);
        dueHomes(0, 0, 3, 3);
        play("arrange(160,0,3)");
        dueCenters(0, 240, 80, 240);
        play("arrange(161,0,3)");
        dueCenters(0, 80, 240, 400);
        dueHomes(0, 3, 3, 3);
        // Behind the begin on the new contour, spacing and kerning count as always.
        play("arrange(161,7,3); setKerning(0,1,20); setKerning(1,2,-3)");
        dueCenters(0, 80, 267, 431);
        play("setKerning(0,1,0); setKerning(1,2,0); setWidth(2,144); arrange(0,0,3)");
        dueCenters(0, 80, 240, 72);
        dueHomes(0, 0, 0, 2);
        play("setWidth(2,145)");
        dueCenters(0, 80, 240, 72);
        dueHomes(0, 0, 0, 3);
        // The second one moves on, and the third one with it, though it would have room before.
        play("setWidth(1,161); setWidth(2,20)");
        dueCenters(0, 80, 80, 171);
        dueHomes(0, 0, 3, 3);
        // It begins on another contour, or on one without segments.
        dueHomes(1, 3, 3, 3);
        dueHomes(2, 3, 3, 3);
        dueHomes(3, 3, 3, 3);
        play("setWidth(0,100)");
        dueHomes(1, 2, 3, 3);
        dueHomes(2, 2, 3, 3);
        dueCenters(1, 50, 80, 171);
        // A letter whose center would be within the length, but not its end.
        play("setWidth(0,320); arrange(0,0,3); letter(0,0,0) = 0; letter(0,0,1) = 160; setWidth(0,321); letter(0,0,0) = 3; letter(0,0,1) = 160");

        // On a contour without segments it moves on, though it ends before 0 there.
        path("M5,5M0,0L100,0");
        write(2);
        for (int offset : new int[] {-300, -161, -160, -159, 0}) {
            ask("arrange", offset, 0, 3);
            dueHomes(0, 1, 1);
            dueCenters(0, 80, 240);
        }
        play("arrange(-300,0,3)");
        dueCenters(1, NONE, NONE);

        says("If there is no further contour, this and all further letters are not placed.");
        path("M0,0L20,0M0,0L10,0");
        write(4);
        play("arrange(0,0,3)");
        dueCenters(0, 80, 240, 80, NONE);
        dueCenters(1, 80, NONE, NONE, NONE);
        play("setWidth(1,321); setWidth(2,1); placed(0,0) = 1");
        dueCenters(0, 80, NONE, NONE, NONE);
        play("setWidth(1,320)");
        dueCenters(0, 80, NONE, NONE, NONE);
        play("setWidth(1,160); arrange(100000,0,3)");
        dueCenters(0, 80, NONE, NONE, NONE);
        dueHomes(0, 1, NONE, NONE, NONE);
        dueCenters(1, NONE, NONE, NONE, NONE);

        says("(A letter that begins before 0 is placed if its center is at least 0.)");
        path("M0,0L20,0M0,5L100,5");
        write(2);
        play("arrange(-80,0,3)");
        dueCenters(0, 0, 160);
        play("arrange(-81,0,3)");
        dueCenters(0, NONE, 159);
        dueHomes(0, NONE, 0);
        play("arrange(-1,0,3)");
        dueCenters(0, 79, 239);
        play("arrange(-20000,0,3)");
        dueCenters(0, NONE, NONE);
        // It is too long for the first contour, but ends within it.
        play("setWidth(0,400); arrange(-80,0,3)");
        dueCenters(0, 120, 80);
        play("arrange(-79,0,3)");
        dueCenters(0, 200, 480);
    }

    private static void lying() {
        section("Description");
        says("A letter that is placed lies at the point of the contour at the distance of its center.");
        path("M9,9M0,0L3,4L3,24");
        write(1);
        play("letter(1,0,0) = 1; letter(1,0,1) = 80; letter(1,0,2) = 3; letter(1,0,3) = 4; letter(1,0,4) = 0");
        play("setWidth(0,162); letter(1,0,1) = 81; letter(1,0,4) = 1; letter(1,0,3) = 4; setWidth(0,192); letter(1,0,2) = 3; letter(1,0,3) = 5; setWidth(0,158); letter(1,0,2) = 2; letter(1,0,3) = 3; letter(1,0,4) = 0");

        says("On a contour without segments no letter is placed.");
        for (String text : WITHOUT_SEGMENTS) {
            path(text);
            write(2);
            for (int mode = 0; mode < 4; mode++) {
                ask("arrange", -80, 0, mode);
                dueCenters(0, NONE, NONE);
                play("placed(0,0) = 0; placed(0,1) = 0");
            }
        }
    }

    private static void setWidth() {
        promise(28);
        says("Sets the width of a letter.", "Returns the previous width;");
        path("M0,0L100,0");
        write(2);
        play("setWidth(0,100) = 160; setWidth(0,40) = 100");
        dueCenters(0, 20, 120);

        says("- `letter`: 0 to 25", "NO_SUCH if there is no such letter;");
        play("setWidth(-1,5) = NO_SUCH; setWidth(0,5) = 160; setWidth(25,6) = 160; setWidth(26,5) = NO_SUCH; setWidth(MIN,5) = NO_SUCH; setWidth(MAX,5) = NO_SUCH; setWidth(24,1) = 160; setWidth(0,1) = 5; setWidth(25,1) = 6");

        says("- `width`: 1 to 4000", "BAD_VALUE if width is out of range.");
        play("setWidth(0,0) = BAD_VALUE; setWidth(0,1) = 160; setWidth(0,4000) = 1; setWidth(0,4001) = BAD_VALUE; setWidth(0,-1) = BAD_VALUE; setWidth(0,MIN) = BAD_VALUE; setWidth(0,MAX) = BAD_VALUE; setWidth(0,9) = 4000");
    }

    private static void setKerning() {
        promise(29);
        says("Sets the kerning of a pair of letters.", "- `left`: the letter before", "- `right`: the letter behind");
        path("M0,0L100,0");
        play("setKerning(0,1,30); write(0); write(1); write(0)");
        dueCenters(0, 80, 270, 430);
        play("setKerning(0,1,-30); setKerning(1,0,7)");
        dueCenters(0, 80, 210, 377);

        says("NO_SUCH if there is no such letter;");
        play("setKerning(-1,0,5) = NO_SUCH; setKerning(26,0,5) = NO_SUCH; setKerning(0,-1,5) = NO_SUCH; setKerning(0,26,5) = NO_SUCH; setKerning(MIN,0,5) = NO_SUCH; setKerning(0,MAX,5) = NO_SUCH; count(6) = 0; setKerning(0,0,5) = 1; setKerning(25,25,5) = 2; setKerning(0,25,5) = 3; setKerning(25,0,5) = 4");

        says("- `amount`: -500 to 500; 0 means that the pair has none", "BAD_VALUE if amount is out of range;");
        path("M0,0L100,0");
        play("write(0); write(1); setKerning(0,1,-501) = BAD_VALUE; setKerning(0,1,501) = BAD_VALUE; setKerning(0,1,MIN) = BAD_VALUE; setKerning(0,1,MAX) = BAD_VALUE; count(6) = 0; letter(0,1,1) = 240");
        play("setKerning(0,1,500) = 1; letter(0,1,1) = 740; setKerning(0,1,-500) = 1; arrange(500,0,0); letter(0,1,1) = 240; setKerning(0,1,-1) = 1; letter(0,1,1) = 739; setKerning(0,1,1) = 1; letter(0,1,1) = 741");
        play("setKerning(0,1,0) = 0; letter(0,1,1) = 740; count(6) = 0");

        says("Returns the number of pairs that have a kerning then;");
        play("setKerning(0,0,0) = 0; setKerning(0,0,1) = 1; setKerning(0,0,2) = 1; setKerning(0,1,1) = 2; setKerning(1,0,1) = 3; setKerning(0,0,0) = 2; setKerning(0,0,0) = 2; setKerning(1,0,0) = 1; setKerning(0,1,0) = 0; count(6) = 0");

        says("TOO_MANY if 20 other pairs have one, and amount is not 0.");
        fillPairs(19);
        play("count(6) = 19; setKerning(24,24,1) = 20; setKerning(24,23,1) = TOO_MANY; setKerning(24,23,-1) = TOO_MANY; setKerning(24,23,0) = 20; count(6) = 20");
        // Beside a pair that has one, there are only 19 others.
        play("setKerning(24,24,-500) = 20; setKerning(0,25,9) = 20; setKerning(0,25,0) = 19; setKerning(24,23,1) = 20; setKerning(0,25,1) = TOO_MANY; setKerning(24,24,0) = 19; setKerning(0,25,1) = 20");
    }

    private static void write() {
        promise(30);
        says("Appends a letter to the lettering.", "Returns the number of letters then;");
        path("M0,0L100,0");
        play("setWidth(3,100); setWidth(5,40); write(3) = 1; write(5) = 2; write(3) = 3");
        dueCenters(0, 50, 120, 190);

        says("- `letter`: 0 to 25", "NO_SUCH if there is no such letter;");
        play("write(-1) = NO_SUCH; write(0) = 1; write(25) = 2; write(26) = NO_SUCH; write(MIN) = NO_SUCH; write(MAX) = NO_SUCH; count(4) = 2");

        says("TOO_MANY if there are 24 letters.");
        write(23);
        play("write(25) = 24; write(0) = TOO_MANY; count(4) = 24; erase() = 24; write(0) = 1");
    }

    private static void erase() {
        promise(31);
        says("Makes the lettering empty.");
        path("M0,0L100,0");
        write(3);
        play("erase() = 3; count(4) = 0; letter(0,0,0) = NO_SUCH; placed(0,0) = 0; placed(0,1) = 0; arrange(0,0,0) = 0");
        // It empties the sequence; offset, spacing and mode, widths and kernings are not letters.
        play("arrange(40,10,0); setWidth(0,100); setKerning(0,1,-5); write(0); write(1); erase() = 2; write(0) = 1; write(1) = 2");
        dueCenters(0, 90, 225);
        play("count(6) = 1; setWidth(0,160) = 100");
        path("M0,0L10,0Z");
        play("arrange(0,0,2); write(0); erase() = 1; write(0); write(1); write(2); letter(0,2,1) = 80");

        says("Returns the number of letters that it had.");
        play("erase() = 0; write(0); erase() = 1; erase() = 0");
        write(24);
        play("erase() = 24; erase() = 0");
    }

    private static void arrange() {
        promise(32);
        says("Sets offset, spacing and overflow mode.", "Returns the number of letters;");
        path("M0,0L10,0Z");
        play("arrange(0,0,0) = 0; write(0); arrange(40,10,2) = 1; write(1); arrange(40,10,2) = 2");
        dueCenters(0, 120, 290);
        play("arrange(30,20,0) = 2");
        dueCenters(0, 110, 290);
        play("arrange(30,60,0) = 2");
        dueCenters(0, 110, NONE);

        says("- `offset`: -20000 to 100000", "- `spacing`: -100 to 1000", "- `mode`: HIDE to MOVE_ON", "BAD_VALUE if an argument is out of range.");
        write(1);
        play("arrange(-20001,0,0) = BAD_VALUE; arrange(-20000,0,0) = 1; arrange(100000,0,0) = 1; arrange(100001,0,0) = BAD_VALUE; arrange(MIN,0,0) = BAD_VALUE; arrange(MAX,0,0) = BAD_VALUE");
        play("arrange(0,-101,0) = BAD_VALUE; arrange(0,-100,0) = 1; arrange(0,1000,0) = 1; arrange(0,1001,0) = BAD_VALUE; arrange(0,MIN,0) = BAD_VALUE; arrange(0,MAX,0) = BAD_VALUE");
        play("arrange(0,0,-1) = BAD_VALUE; arrange(0,0,0) = 1; arrange(0,0,1) = 1; arrange(0,0,2) = 1; arrange(0,0,3) = 1; arrange(0,0,4) = BAD_VALUE; arrange(0,0,MIN) = BAD_VALUE; arrange(0,0,MAX) = BAD_VALUE");
        // The widest offset and spacing hold, on a contour of 128000.
        load("M-4000,0L4000,0");
        play("erase()");
        write(24);
        play("arrange(100000,1000,0)");
        dueCenters(0, 100080, 101240, 102400);
        play("letter(0,23,1) = 126760; arrange(-20000,1000,0); letter(0,17,1) = NONE; letter(0,18,1) = 960; arrange(0,-100,0); letter(0,23,1) = 1460");
    }

    private static void letter() {
        promise(33);
        says("Returns a property of a letter that is laid on a path.", "- `what`: 0 for the contour on which it is placed, 1 for the distance of its center, 2 for x, 3 for y, 4 for the number of the segment", "Returns the property;");
        path("M5,5L6,5M0,0L100,0L100,-100");
        write(2);
        play("arrange(1500,10,0)");
        play("letter(1,0,0) = 1; letter(1,0,1) = 1580; letter(1,0,2) = 98; letter(1,0,3) = 0; letter(1,0,4) = 1");
        play("letter(1,1,0) = 1; letter(1,1,1) = 1750; letter(1,1,2) = 100; letter(1,1,3) = -9; letter(1,1,4) = 2");

        says("- `contour`: the contour on which the lettering is laid (with MOVE_ON, the first one)");
        path("M0,0L10,0M0,5L20,5M0,9L10,9");
        write(2);
        dueCenters(0, 80, NONE);
        dueCenters(1, 80, 240);
        play("letter(1,1,0) = 1; letter(1,1,3) = 5; letter(2,0,0) = 2; letter(2,0,3) = 9; arrange(0,0,3)");
        dueHomes(0, 0, 1);
        dueHomes(1, 1, 1);
        dueHomes(2, 2, NONE);

        says("NONE if it is not placed;");
        path("M0,0L10,0");
        write(2);
        for (int what = 0; what < 5; what++) {
            holds("the first one is placed", ask("letter", 0, 0, what) >= 0);
            due(NONE, "letter", 0, 1, what);
        }

        says("NO_SUCH if there is no such contour, or no such letter of the lettering;", "- `index`: index in the lettering");
        play("write(0); letter(0,0,0) = NO_SUCH; letter(-1,0,0) = NO_SUCH");
        load("M0,0L10,0M0,0L10,0");
        play("letter(-1,0,0) = NO_SUCH; letter(0,0,0) = 0; letter(1,0,0) = 1; letter(2,0,0) = NO_SUCH; letter(MIN,0,0) = NO_SUCH; letter(MAX,0,0) = NO_SUCH");
        play("letter(0,-1,0) = NO_SUCH; letter(0,1,0) = NO_SUCH; letter(0,MIN,0) = NO_SUCH; letter(0,MAX,0) = NO_SUCH; write(0); letter(0,1,0) = NONE; letter(0,2,0) = NO_SUCH; erase(); letter(0,0,0) = NO_SUCH");

        says("BAD_VALUE if what is not 0 to 4.");
        path("M0,0L10,0");
        write(1);
        play("letter(0,0,-1) = BAD_VALUE; letter(0,0,0) = 0; letter(0,0,4) = 0; letter(0,0,5) = BAD_VALUE; letter(0,0,MIN) = BAD_VALUE; letter(0,0,MAX) = BAD_VALUE");
    }

    private static void placed() {
        promise(34);
        says("Counts letters of the lettering laid on a path.", "- `contour`: as with letter()", "Returns the number;");
        path("M0,0L10,0M0,5L30,5M5,5");
        play("placed(0,0) = 0; placed(0,1) = 0");
        write(5);
        play("placed(0,0) = 1; placed(1,0) = 3; placed(2,0) = 0; placed(0,1) = 0; placed(2,1) = 0; arrange(0,0,3); placed(0,0) = 4; placed(1,0) = 3; arrange(0,0,1); placed(0,0) = 5; placed(1,0) = 5; placed(2,0) = 0");

        says("NO_SUCH if there is no such contour;");
        play("placed(0,0) = NO_SUCH; placed(-1,0) = NO_SUCH");
        load("M0,0L10,0M5,5");
        play("placed(-1,0) = NO_SUCH; placed(0,0) = 0; placed(1,0) = 0; placed(2,0) = NO_SUCH; placed(MIN,0) = NO_SUCH; placed(MAX,0) = NO_SUCH");

        says("BAD_VALUE if what is neither 0 nor 1.");
        path("M0,0L10,0");
        play("placed(0,-1) = BAD_VALUE; placed(0,0) = 0; placed(0,1) = 0; placed(0,2) = BAD_VALUE; placed(0,MIN) = BAD_VALUE; placed(0,MAX) = BAD_VALUE");
    }

    private static void turnedBackward() {
        says("- `what`: 0 for the letters that are placed; 1 for the placed letters other than the first placed one whose segment turns backward against that of the placed letter before it on the same contour (the sum of the products of both dx and of both dy is less than 0)");
        // The first segment is (100, 1) and 1600 long; the centers are 800 and 2100.
        for (int[] one : new int[][] {{99, 99, 1}, {99, 100, 1}, {99, 101, 0}, {99, 102, 0}, {100, 101, 0}}) {
            path("M0,0L100,1L" + one[0] + "," + one[1]);
            write(2);
            play("setWidth(0,1600); setWidth(1,1000); letter(0,0,4) = 0; letter(0,1,4) = 1; placed(0,0) = 2");
            due(one[2], "placed", 0, 1);
        }
        // Both products count: (3, 4) and (-4, 3) stand upright, (3, 4) and (4, -3) as well.
        for (String text : new String[] {"M0,0L30,40L-10,70", "M0,0L30,40L70,10"}) {
            path(text);
            write(2);
            play("setWidth(0,800); setWidth(1,800); letter(0,1,4) = 1; placed(0,1) = 0");
        }
        // The first placed one is none of them, and each further one is compared anew.
        path("M0,0L10,0L0,0L10,0");
        write(1);
        play("placed(0,1) = 0; arrange(160,0,0); letter(0,0,4) = 1; placed(0,1) = 0; write(1); placed(0,1) = 1; arrange(0,0,0); placed(0,1) = 1; write(2); placed(0,1) = 2; write(3); placed(0,0) = 3; placed(0,1) = 2");
        play("arrange(-160,0,0); placed(0,0) = 3; placed(0,1) = 2; arrange(-320,0,0); placed(0,0) = 2; placed(0,1) = 1; arrange(-480,0,0); placed(0,0) = 1; placed(0,1) = 0");
        // Two on the same segment: the second one does not turn.
        path("M0,0L20,0L10,0");
        write(3);
        play("placed(0,0) = 3; placed(0,1) = 1");
        // Only a letter on the same contour counts: the first one on the next has none before it.
        path("M0,0L10,0M10,0L0,0M0,0L20,0L0,0");
        write(4);
        play("arrange(0,0,3); placed(0,0) = 4; placed(0,1) = 0");
        dueHomes(0, 0, 1, 2, 2);
        play("write(4); letter(0,4,4) = 3; placed(0,1) = 1; write(5); letter(0,5,4) = 3; placed(0,1) = 1");
        // On a point there is nothing that could turn.
        path("M5,5Z");
        write(3);
        play("placed(0,1) = 0; arrange(0,0,2); placed(0,1) = 0; arrange(0,0,3); placed(0,1) = 0");
    }

    private static void placedBefore() {
        says("that of the placed letter before it on the same contour");
        // One that is not placed does not count: its center would be 360 of 320.
        path("M0,0L10,0L0,0");
        write(3);
        play("setWidth(1,400); setKerning(1,2,-400)");
        dueCenters(0, 80, NONE, 240);
        play("placed(0,0) = 2; placed(0,1) = 1");
        // Before it is meant in the lettering: along this square lie a, c and b, and each turns
        // by a right angle; but b turns back against a, and c by a right angle against b.
        path("M0,0L10,0L10,10L0,10Z");
        write(3);
        play("arrange(0,160,2); setKerning(1,2,160)");
        dueCenters(0, 80, 400, 240);
        play("placed(0,0) = 3; placed(0,1) = 1");
        // The same without going round: the third one lies before the second one.
        path("M0,0L10,0L10,10L0,10");
        write(3);
        play("setWidth(1,80); setKerning(0,1,200); setKerning(1,2,-280)");
        dueCenters(0, 80, 400, 240);
        play("placed(0,0) = 3; placed(0,1) = 1");
    }
}
