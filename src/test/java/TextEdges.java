// The sentences of the promises 12 to 16, and what the description says about texts.
final class TextEdges extends Edges {
    static void run() {
        form();
        smallLetters();
        faultOfAText();
        say();
        wipe();
        fault();
        load();
        spell();
    }

    private static String repeated(String part, int times) {
        return part.repeat(times);
    }

    private static void form() {
        section("Description");
        says("The pad is a text of at most 120 characters, from which a path can be read.");
        say(repeated("M0,0", 30));
        play("count(3) = 120; say(77) = TOO_MANY; count(3) = 120; fault() = NONE; load() = TOO_MANY");
        dueLoad("M1000,1000" + repeated("L1000,1000", 11), 12);

        says("It is correct if it has this form, without spaces:", "path = contour { contour }");
        dueCorrect("M0,0", "M0,0M1,1", "M0,0m1,1M1,1", "M0,0ZM0,0Z", "M0,0L1,1M0,0");
        dueCut("");
        play("say(32) = BAD_VALUE");

        says("contour = ( \"M\" | \"m\" ) pair { command } [ \"Z\" ]");
        dueCorrect("M1,2", "m1,2", "M1,2Z", "m1,2Z", "M1,2L3,4", "M1,2L3,4Z", "M1,2L3,4L3,4L3,4", "M1,2Zm1,2");
        dueCut("M", "m", "M1,2ZM", "M1,2m");
        dueWrongAtEnd("L", "l", "Q", "C", "Z", "z", "0", "-", ",", "N", "MM", "Mm", "MZ", "ML", "M1,2z", "M1,2ZZ", "M1,2ZL", "M1,2Zl", "M1,2ZQ", "M1,2Zc", "M1,2Z0", "M1,2Z-", "M1,2Z,", "M1,2L3,4ZZ");

        says("command = ( \"L\" | \"l\" ) pair | ( \"Q\" | \"q\" ) pair \",\" pair | ( \"C\" | \"c\" ) pair \",\" pair \",\" pair");
        dueCorrect("M0,0L1,2", "M0,0l1,2", "M0,0Q1,2,3,4", "M0,0q1,2,3,4", "M0,0C1,2,3,4,5,6", "M0,0c1,2,3,4,5,6", "M0,0L1,2Q1,2,3,4C1,2,3,4,5,6l1,2q1,2,3,4c1,2,3,4,5,6Z");
        dueCut("M0,0L", "M0,0L1", "M0,0L1,", "M0,0Q1,2", "M0,0Q1,2,", "M0,0Q1,2,3", "M0,0q1,2,3,", "M0,0C1,2", "M0,0C1,2,3,4", "M0,0C1,2,3,4,", "M0,0C1,2,3,4,5", "M0,0c1,2,3,4,5,");
        dueWrongAtEnd("M0,0L1,2,", "M0,0l1Z", "M0,0LL", "M0,0Q1,2Z", "M0,0Q1,2L", "M0,0Q1,2,3Z", "M0,0Q1,2,3,4,", "M0,0q1,2M", "M0,0C1,2Z", "M0,0C1,2,3,4Z", "M0,0C1,2,3,4L", "M0,0C1,2,3,4,5M", "M0,0C1,2,3,4,5,6,", "M0,0T", "M0,0V", "M0,0H", "M0,0A");

        says("pair = number \",\" number");
        dueCorrect("M1,2", "M-1,-2");
        dueCut("M1", "M1,", "M1,-", "M-");
        dueWrongAtEnd("M,", "M1,,", "M1;", "M1.", "M1,Z", "M1,L", "M1Z", "M1M", "M1,2,", "M-,", "M1,-,", "M1,-Z", "M-Z");

        says("number = [ \"-\" ] a number from 0 to 4000 without leading zeros (also \"-0\")");
        dueCorrect("M0,0", "M-0,-0", "M1,9", "M10,99", "M100,999", "M1000,3999", "M4000,-4000", "M-3999,-9", "M400,-400", "M-1000,2000");
        dueWrongAtEnd("M00", "M01", "M09", "M-00", "M-01", "M0,00", "M0,-00", "M4001", "M-4001", "M4009", "M4010", "M4100", "M5000", "M9999", "M-5000", "M40000", "M10000", "M0,4001", "M0,-4001", "M0,40000", "M--", "M0-", "M1-", "M10-", "M0,0-", "M0,--", "M+", "M0,+");
    }

    private static void smallLetters() {
        section("Description");
        says("With a capital letter, the pairs are points; with a small letter, they are differences to the current point, which is the point before this command (for the first m, the point (0, 0); for a further m, the current point; behind Z, it is the point of the MOVE).");
        dueLoads("m3,-4", "M3,-4");
        dueLoads("M10,20L1,2l1,2l1,2L5,5", "M10,20L1,2L2,4L3,6L5,5");
        // All pairs of a command are differences to the same point.
        dueLoads("M10,20q1,2,3,4q1,2,3,4", "M10,20Q11,22,13,24Q14,26,16,28");
        dueLoads("M10,20c1,2,3,4,5,6c1,2,3,4,5,6", "M10,20C11,22,13,24,15,26C16,28,18,30,20,32");
        dueLoads("M10,20Q1,2,3,4l1,1", "M10,20Q1,2,3,4L4,5");
        dueLoads("M10,20C1,2,3,4,5,6l1,1", "M10,20C1,2,3,4,5,6L6,7");
        dueLoads("m1,1m1,1m1,1", "M1,1M2,2M3,3");
        dueLoads("M10,10L20,30m1,1l1,1", "M10,10L20,30M21,31L22,32");
        dueLoads("M10,10L20,30Zm1,1l1,1", "M10,10L20,30ZM11,11L12,12");
        dueLoads("M10,10L20,30ZM5,5L7,7Zm1,1", "M10,10L20,30ZM5,5L7,7ZM6,6");
        dueLoads("m5,5l1,1Zm1,1l9,9Zm1,1", "M5,5L6,6ZM6,6L15,15ZM7,7");
        dueLoads("M10,10l-10,-11", "M10,10L0,-1");
        dueLoads("M-0,0l-0,-0", "M0,0L0,0");
        // A path that was there before does not matter for the first m.
        path("M100,100L200,200");
        load("m1,1");
        duePath("M1,1");
    }

    private static void dueLoads(String text, String want) {
        path(text);
        duePath(want);
    }

    private static void faultOfAText() {
        section("Description");
        says("The fault of a text that is not correct is the index of the first character with which, after all characters before it, no correct text can begin;");
        dueFault("!", 0);
        dueFault("M1,1!", 4);
        dueFault("M1,1!Z,,--", 4);
        dueFault("XM1,1", 0);
        dueFault("M4000,40001Z", 10);
        dueFault("M1,1L1,1,Z", 8);
        dueFault("M1,1ZZM1,1", 5);
        says("if there is no such character, it is the length of the text.");
        dueFault("", 0);
        dueFault("M", 1);
        dueFault("M1,1L", 5);
        dueFault("M1,1L2,2", NONE);
        dueFault("M1,1L2,2L", 9);
        says("(The greatest length and the number of commands do not matter for this.)");
        dueFault(repeated("M0,0", 24), NONE);
        fresh();
        dueFault(repeated("M0,0", 25), NONE);
        fresh();
        dueFault(repeated("M0,0", 25) + "!", 100);
        fresh();
        dueFault(repeated("M0,0", 30), NONE);
        fresh();
        dueFault(repeated("M0,0", 29) + "L0,", 119);
        fresh();
        // No character more has room, and yet the text could go on.
        dueFault(repeated("M0,0", 29) + "L0,-", 120);
        fresh();
        dueFault(repeated("M0,0", 29) + "L0,!", 119);
        // Whether a point would be out of range does not matter either.
        dueFault("M4000,0l4000,0", NONE);
    }

    private static void say() {
        promise(12);
        says("Appends a character to the pad.", "Returns the length of the pad then;");
        play("say(77) = 1; say(49) = 2; count(3) = 2; fault() = 2; say(44) = 3; say(50) = 4; fault() = NONE; load() = 1; command(0,3) = 1; command(0,4) = 2; say(77) = 1");
        says("- `character`: its code, 33 to 126", "BAD_VALUE if the code is out of range;");
        play("say(32) = BAD_VALUE; say(33) = 1; say(126) = 2; say(127) = BAD_VALUE; say(0) = BAD_VALUE; say(-1) = BAD_VALUE; say(MIN) = BAD_VALUE; say(MAX) = BAD_VALUE");
        // No code is taken for another one that it would be in 8 or 16 bits.
        play("say(333) = BAD_VALUE; say(65613) = BAD_VALUE; count(3) = 2");
        says("TOO_MANY if the pad has 120 characters.");
        fillPad(119);
        play("say(77) = 120; say(77) = TOO_MANY; say(77) = TOO_MANY; count(3) = 120; wipe() = 120; say(77) = 1");
    }

    private static void wipe() {
        promise(13);
        says("Empties the pad.");
        say("M1,1");
        play("wipe() = 4; count(3) = 0; fault() = 0; load() = BAD_TEXT; say(77) = 1; fault() = 1");
        says("Returns the length that it had.");
        play("wipe() = 0; say(77); wipe() = 1; wipe() = 0");
        fillPad(120);
        play("wipe() = 120; wipe() = 0");
    }

    private static void fault() {
        promise(14);
        says("Returns the fault of the pad.", "Returns the fault,");
        play("fault() = 0; say(77); fault() = 1; fault() = 1; say(49); fault() = 2; say(44); fault() = 3; say(44); fault() = 3; say(44); fault() = 3");
        // It reads, and changes nothing.
        path("M5,5L6,6");
        say("M1,1L9,9!");
        play("fault() = 8; count(3) = 9; count(0) = 2; command(1,3) = 6; measure(0,2) = 22; vertex(0,1,0) = 6");
        says("or NONE if the text is correct.");
        dueFault("M1,1", NONE);
        dueFault("M1,1Z", NONE);
        play("count(3) = 5; count(0) = 0");
    }

    private static void load() {
        promise(15);
        says("Replaces the path by the one that the pad describes.", "Returns the number of commands;");
        play("move(9,9); line(1,9); move(7,7); measure(-1,0) = 3");
        dueLoad("M1,2L3,4Q5,6,7,8C1,2,3,4,5,6ZM7,7", 6);
        play("count(0) = 6; count(1) = 2; command(3,0) = 3; measure(0,3) = 1; vertex(0,1,0) = 3");
        duePath("M1,2L3,4Q5,6,7,8C1,2,3,4,5,6ZM7,7");
        dueLoad("M0,0", 1);
        play("count(0) = 1; count(1) = 1; measure(-1,0) = 1; setTolerance(9) = 4");
        dueLoad("M0,0Z", 2);
        play("count(2) = 9");

        says("The pad is empty then.");
        say("M1,1");
        play("load() = 1; count(3) = 0; load() = BAD_TEXT; say(77) = 1");

        says("BAD_TEXT if the text is not correct;");
        play("load() = BAD_TEXT; move(9,9)");
        dueLoad("M1,1L", BAD_TEXT);
        dueLoad("M1,1L1,", BAD_TEXT);
        play("count(3) = 7; say(49) = 8; load() = 2");
        dueLoad("M1,1ZZ", BAD_TEXT);
        duePath("M1,1L1,1");
        play("count(3) = 6; wipe() = 6");

        says("TOO_MANY if it has more than 24 commands;");
        dueLoad(repeated("M0,0", 24), 24);
        dueLoad(repeated("M1,1", 25), TOO_MANY);
        play("count(0) = 24; command(23,3) = 0; count(3) = 100; wipe() = 100");
        fresh();
        dueLoad(repeated("M0,0Z", 12), 24);
        dueLoad(repeated("M0,0Z", 12) + "M0,0", TOO_MANY);
        fresh();
        dueLoad("M0,0" + repeated("l0,0", 23), 24);
        dueLoad("M0,0" + repeated("l0,0", 24), TOO_MANY);
        fresh();
        dueLoad("M0,0" + repeated("l0,0", 22) + "Z", 24);
        dueLoad("M0,0" + repeated("l0,0", 23) + "Z", TOO_MANY);

        outOfRange();
    }

    private static void outOfRange() {
        says("NOT_POSSIBLE if a coordinate would be out of range.");
        dueLoad("M3999,-3999l1,-1", 2);
        dueLoad("M3999,-3999l2,-1", NOT_POSSIBLE);
        dueLoad("M3999,-3999l1,-2", NOT_POSSIBLE);
        dueLoad("M-3999,3999l-1,1", 2);
        dueLoad("M-3999,3999l-2,1", NOT_POSSIBLE);
        dueLoad("M-3999,3999l-1,2", NOT_POSSIBLE);
        play("count(3) = 16; count(0) = 2; command(1,3) = -4000; wipe() = 16");
        dueLoad("m4000,4000m-4000,-4000m-4000,-4000", 3);
        dueLoad("m4000,4000m1,0", NOT_POSSIBLE);
        fresh();
        // Each pair of each command counts, the control points too.
        String[] commands = {"m0,0", "l0,0", "q0,0,0,0", "c0,0,0,0,0,0"};
        for (String command : commands) {
            int numbers = command.split(",").length;
            for (int i = 0; i < numbers; i++) {
                String[] parts = command.substring(1).split(",");
                parts[i] = "1";
                String text = "M3999,3999" + command.charAt(0) + String.join(",", parts);
                fresh();
                dueLoad(text, 2);
                dueLoad("M4000,4000" + text.substring(10), NOT_POSSIBLE);
                parts[i] = "-1";
                text = "M-3999,-3999" + command.charAt(0) + String.join(",", parts);
                dueLoad(text, 2);
                dueLoad("M-4000,-4000" + text.substring(12), NOT_POSSIBLE);
                play("count(0) = 2");
            }
        }
        // Out of range and back again.
        dueLoad("M4000,0l1,0l-1,0", NOT_POSSIBLE);
        dueLoad("M4000,0l0,0l-1,0", 3);
        // Behind Z it goes on at the point of the MOVE.
        dueLoad("M4000,0L0,0Zm1,0", NOT_POSSIBLE);
        dueLoad("M0,0L4000,0Zm1,0", 4);
        dueLoad("M0,0L4000,0m1,0", NOT_POSSIBLE);
        // Capital letters give no point out of range.
        dueLoad("M4000,-4000L-4000,4000Q4000,4000,-4000,-4000", 3);
    }

    private static void spell() {
        promise(16);
        says("Returns a character of the path written as a text with capital letters only.");
        path("m-4000,0l4000,10q-1,90,999,990c-998,-1002,-996,3000,-939,-1705Z");
        duePath("M-4000,0L0,10Q-1,100,999,1000C1,-2,3,4000,60,-705Z");
        path("M-0,-0");
        duePath("M0,0");
        path("M9,-10L99,-100L-999,1000L-1,1");
        duePath("M9,-10L99,-100L-999,1000L-1,1");
        path("M1,1ZM2,2ZM3,3M4,4");
        duePath("M1,1ZM2,2ZM3,3M4,4");

        says("- `index`: -1 for the length of this text (0 for an empty path), otherwise the index of a character", "Returns the length, or the code of the character;");
        play("spell(-1) = 0; move(0,0); spell(-1) = 4; spell(0) = 77; spell(1) = 48; spell(2) = 44; spell(3) = 48; close(); spell(-1) = 5; spell(4) = 90");
        play("removeLast(); line(1,-1); spell(-1) = 9; spell(4) = 76; spell(7) = 45; removeLast(); quad(1,1,1,1); spell(4) = 81; removeLast(); cubic(1,1,1,1,1,1); spell(4) = 67");
        // The longest text: 12 characters for M and its pair, and 36 for each C and its pairs.
        fresh();
        play("move(-4000,-4000); spell(-1) = 12");
        while (ask("count", 0) < 24) ask("cubic", -4000, -4000, -4000, -4000, -4000, -4000);
        play("spell(-1) = 840; spell(839) = 48; spell(840) = NONE; spell(804) = 67");

        says("NONE if there is no such index.");
        play("spell(0) = NONE; spell(1) = NONE; spell(-2) = NONE; move(0,0); spell(0) = 77; spell(3) = 48; spell(4) = NONE; spell(-2) = NONE; spell(MIN) = NONE; spell(MAX) = NONE");
        path("M100,100");
        play("spell(7) = 48; load() = BAD_TEXT; removeLast(); move(1,1); spell(3) = 49; spell(4) = NONE; spell(7) = NONE");
    }
}
