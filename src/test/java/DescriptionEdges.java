// The sentences of "What it is" and of "Description", up to the dashes.
final class DescriptionEdges extends Edges {
    static void run() {
        useOfAnObject();
        examples();
        constants();
        section("Description");
        conventions();
        paths();
        vertices();
        quads();
        cubics();
        lengths();
        points();
        dashes();
    }

    private static void useOfAnObject() {
        section("What it is");
        says("An object is used for at most 512 calls after it has been made; what later calls answer is free.");
        play("move(0,0) = 1; line(3,4) = 2");
        while (callsMade() < MOST_CALLS - 2) play("measure(0,2) = 80");
        play("line(3,5) = 3; measure(0,2) = 96");
        holds("these are all the calls", callsMade() == MOST_CALLS);
        says("Paths of lines and Bezier curves in integer arithmetic: flattening with an error bound, length tables, points at distances, nearest points, winding numbers, dashes, simplified polygons, text that is laid along a path with kerning and several ways to overflow, transformations, and paths written as texts.");
        holds("a promise for each method, and one for the constructor", BOOK.promises() == 37);
    }

    private static void examples() {
        section("Description");
        holds("four examples are found", BOOK.examples().size() == 4);
        for (String script : BOOK.examples()) {
            fresh();
            play(script);
        }
    }

    private static void constants() {
        section("Constants");
        says("`LIMIT = -1000000`: What error codes and NONE have been increased by.");
        holds("LIMIT", PathFlattener.LIMIT == -1000000);
        says("`NO_SUCH = -1 + LIMIT, BAD_VALUE = -2 + LIMIT, BAD_TEXT = -3 + LIMIT, TOO_MANY = -4 + LIMIT, NOT_POSSIBLE = -5 + LIMIT, NONE = -6 + LIMIT`: Error codes, and NONE: there is none.");
        holds("NO_SUCH", PathFlattener.NO_SUCH == -1000001);
        holds("BAD_VALUE", PathFlattener.BAD_VALUE == -1000002);
        holds("BAD_TEXT", PathFlattener.BAD_TEXT == -1000003);
        holds("TOO_MANY", PathFlattener.TOO_MANY == -1000004);
        holds("NOT_POSSIBLE", PathFlattener.NOT_POSSIBLE == -1000005);
        holds("NONE", PathFlattener.NONE == -1000006);
        says("`GONE = -1000000000000000000L`: What area() returns if there is no such contour.");
        holds("GONE", PathFlattener.GONE == -1000000000000000000L);
        play("area(0) = -1000000000000000000");
        says("`MOVE = 0, LINE = 1, QUAD = 2, CUBIC = 3, CLOSE = 4`: Kinds of commands.");
        holds("kinds", PathFlattener.MOVE == 0 && PathFlattener.LINE == 1 && PathFlattener.QUAD == 2 && PathFlattener.CUBIC == 3 && PathFlattener.CLOSE == 4);
        says("`HIDE = 0, SQUEEZE = 1, ROUND = 2, MOVE_ON = 3`: Overflow modes.");
        holds("modes", PathFlattener.HIDE == 0 && PathFlattener.SQUEEZE == 1 && PathFlattener.ROUND == 2 && PathFlattener.MOVE_ON == 3);
    }

    private static void conventions() {
        says("All numbers are integers.", "x / y is truncated toward 0,");
        path("M0,0L3,4");
        play("at(0,79,0) = 2; at(0,79,1) = 3");
        path("M0,0L-3,-4");
        play("at(0,79,0) = -2; at(0,79,1) = -3");
        // dx * q / n is -3 * 7 / 25, and dy * q / n is -4 * 7 / 25.
        play("nearest(-1,-1,0) = 0; nearest(-1,-1,1) = -1");
        // The way is truncated, not the sum of the vertex and the way.
        path("M-5,-5L-2,-1");
        play("at(0,79,0) = -3; at(0,79,1) = -2");

        says("x >> k is x divided by 2 to the power of k, rounded down (also for negative x).");
        path("M0,0Q7,0,14,41");
        dueVertices(0, 0, 0, 6, 10, 14, 41);
        path("M0,0Q-7,0,-14,-41");
        dueVertices(0, 0, 0, -8, -11, -14, -41);
        path("M-1,1");
        play("transform(1,0,0,1,0,0) = 1; command(0,3) = -1; command(0,4) = 0");
        path("M-1,1");
        play("transform(255,0,0,255,0,0) = 1; command(0,3) = -1; command(0,4) = 0");
        path("M-1,1");
        play("transform(257,0,0,257,0,0) = 1; command(0,3) = -2; command(0,4) = 1");

        says("A method that fails returns one of the error codes NO_SUCH (-1), BAD_VALUE (-2), BAD_TEXT (-3), TOO_MANY (-4) and NOT_POSSIBLE (-5) plus LIMIT, where LIMIT is -1000000, so that they differ from all other results; below they are called by their names alone.");
        play("command(0,0) = -1000001; move(4001,0) = -1000002; load() = -1000003; close() = -1000005");
        fill(24);
        play("move(0,0) = -1000004");
        // area() fails with GONE alone: a number that looks like an error code is an area.
        path("M0,0L1,1000L1000,-1");
        play("area(0) = -1000001; area(1) = GONE");

        says("Everything is numbered from 0.");
        path("M1,2L4,6M5,5L5,6");
        play("command(0,3) = 1; command(0,1) = 0; command(2,1) = 1; measure(0,2) = 80; measure(1,2) = 16");
        play("vertex(0,0,0) = 1; vertex(0,1,0) = 4; at(0,0,2) = 0; at(1,0,2) = 1; spell(0) = 77; spell(1) = 49");
        play("write(0) = 1; letter(0,0,0) = 0; save(0) = 4; restore(0) = 4");
        dueFault("L", 0);

        says("Coordinates are from -4000 to 4000.");
        play("move(-4000,4000) = 1; move(4000,-4000) = 2; line(-4000,-4000) = 3");
        play("move(-4001,0) = BAD_VALUE; move(4001,0) = BAD_VALUE; move(0,-4001) = BAD_VALUE; move(0,4001) = BAD_VALUE");
        play("winding(-4000,4000) = 0; winding(4000,-4000) = 0; winding(-4001,0) = BAD_VALUE; winding(0,4001) = BAD_VALUE");
        dueLoad("M4000,-4000L-4000,4000", 2);

        says("Distances and lengths along a path are counted in sixteenths of a unit.");
        path("M0,0L1,0");
        play("measure(0,2) = 16; command(1,2) = 16; vertex(0,1,2) = 16; at(0,15,0) = 0; at(0,16,0) = 1; at(0,17,0) = NOT_POSSIBLE");
    }

    private static void paths() {
        says("A path consists of up to 24 commands: MOVE (0), LINE (1), QUAD (2), CUBIC (3) and CLOSE (4).");
        play("move(0,0) = 1; line(1,1) = 2; quad(1,1,2,2) = 3; cubic(1,1,2,2,3,3) = 4; close() = 5");
        play("command(0,0) = 0; command(1,0) = 1; command(2,0) = 2; command(3,0) = 3; command(4,0) = 4");
        for (String call : new String[] {"move(0,0)", "line(0,0)", "quad(0,0,0,0)", "cubic(0,0,0,0,0,0)", "close()"}) {
            fresh();
            fill(23);
            play(call + " = 24; move(0,0) = TOO_MANY; count(0) = 24");
            fresh();
            fill(24);
            play(call + " = TOO_MANY; count(0) = 24");
        }

        says("A MOVE begins a contour at a point.");
        play("move(3,4) = 1; count(1) = 1; measure(0,0) = 1; vertex(0,0,0) = 3; vertex(0,0,1) = 4");
        play("move(3,4) = 2; count(1) = 2; measure(1,0) = 1; vertex(1,0,0) = 3; vertex(1,0,1) = 4");

        says("A LINE goes from the current point to an end point; a QUAD does so with one control point, a CUBIC with two.");
        path("M0,0L3,4Q5,6,7,8C1,2,3,4,5,6");
        play("command(1,3) = 3; command(1,4) = 4; command(1,5) = NONE; command(1,7) = NONE");
        play("command(2,3) = 7; command(2,4) = 8; command(2,5) = 5; command(2,6) = 6; command(2,7) = NONE; command(2,8) = NONE");
        play("command(3,3) = 5; command(3,4) = 6; command(3,5) = 1; command(3,6) = 2; command(3,7) = 3; command(3,8) = 4");

        says("The current point is the point of a MOVE, or the end point of the latest command.");
        path("M9,9L1,1M10,10L10,11Q10,12,10,13C10,13,10,14,10,14L10,16");
        dueVertices(1, 10, 10, 10, 11, 10, 13, 10, 14, 10, 16);
        load("m1,2l1,1q9,9,2,2c9,9,9,9,3,3l1,0");
        duePath("M1,2L2,3Q11,12,4,5C13,14,13,14,7,8L8,8");

        says("A CLOSE goes back to the point of the MOVE of the contour by a straight line, and closes the contour.");
        path("M9,9M1,2L4,2L4,6Z");
        play("command(4,3) = 1; command(4,4) = 2; command(4,2) = 80; measure(1,2) = 192; measure(0,3) = 0; measure(1,3) = 1");
        dueVertices(1, 1, 2, 4, 2, 4, 6, 1, 2);
        play("at(1,152,0) = 3; at(1,152,1) = 4; at(1,192,0) = 1; at(1,192,1) = 2");

        says("The first command is a MOVE, and behind a CLOSE only a MOVE can follow.");
        play("line(0,0) = NOT_POSSIBLE; quad(0,0,0,0) = NOT_POSSIBLE; cubic(0,0,0,0,0,0) = NOT_POSSIBLE; close() = NOT_POSSIBLE");
        play("move(0,0) = 1; close() = 2");
        play("line(0,0) = NOT_POSSIBLE; quad(0,0,0,0) = NOT_POSSIBLE; cubic(0,0,0,0,0,0) = NOT_POSSIBLE; close() = NOT_POSSIBLE");
        play("count(0) = 2; move(0,0) = 3; line(0,0) = 4");

        says("A MOVE can follow any command.");
        play("move(0,0) = 1; move(1,1) = 2; line(0,0) = 3; move(1,1) = 4; quad(0,0,0,0) = 5; move(1,1) = 6");
        play("cubic(0,0,0,0,0,0) = 7; move(1,1) = 8; close() = 9; move(1,1) = 10; count(1) = 6");

        says("Contours are numbered in their order.");
        path("M1,0L2,0M3,0M5,0Z");
        play("command(0,1) = 0; command(1,1) = 0; command(2,1) = 1; command(3,1) = 2; command(4,1) = 2");
        play("vertex(0,0,0) = 1; vertex(1,0,0) = 3; vertex(2,0,0) = 5; vertex(3,0,0) = NO_SUCH");
    }

    private static void vertices() {
        says("Each contour is flattened to a sequence of vertices.", "The first one is the point of its MOVE.", "The other commands add vertices:", "A LINE adds its end point, a CLOSE the point of the MOVE.");
        path("M1,2L3,4L5,-6ZM7,8M9,9Z");
        dueVertices(0, 1, 2, 3, 4, 5, -6, 1, 2);
        dueVertices(1, 7, 8);
        dueVertices(2, 9, 9);

        says("A vertex that is equal to the previous vertex of the contour is not added.");
        path("M1,1L1,1L2,1L2,1L1,1Z");
        dueVertices(0, 1, 1, 2, 1, 1, 1);
        play("command(1,2) = 0; command(2,2) = 16; command(3,2) = 0; command(4,2) = 16; command(5,2) = 0");
        path("M1,1L1,2L2,2L2,1Z");
        dueVertices(0, 1, 1, 1, 2, 2, 2, 2, 1, 1, 1);
        path("M5,5Q5,5,5,5C5,5,5,5,5,5");
        dueVertices(0, 5, 5);
        // Of the pieces from (0, 0) to (4, 0) and back, each ends elsewhere than the one before.
        path("M0,0Q8,0,0,0L0,0Q9,0,0,0");
        dueVertices(0, 0, 0, 4, 0, 0, 0);
        // The middle f of this curve is (0, 0), like its begin.
        path("M0,0C0,0,0,0,4,5");
        dueVertices(0, 0, 0, 4, 5);
        // The last vertex of another contour is not the previous one of this.
        path("M0,0L1,1M1,1L1,1M1,1");
        dueVertices(1, 1, 1);
        dueVertices(2, 1, 1);

        says("The tolerance is 4 initially.");
        play("count(2) = 4; setTolerance(4) = 4");
        path("M0,0Q0,0,16,0M0,0Q0,0,17,0");
        play("measure(0,1) = 1; measure(1,1) = 2");

        says("Two successive vertices of a contour bound a segment.", "The segments of all contours are numbered through, in their order.");
        path("M0,0L1,0L1,1M5,5M9,9L9,9L9,8");
        play("measure(0,1) = 2; measure(1,1) = 0; measure(2,1) = 1; measure(-1,1) = 3");
        play("at(0,0,2) = 0; at(0,16,2) = 0; at(0,17,2) = 1; at(2,0,2) = 2; nearest(9,8,2) = 2");
    }

    private static void duePieces(String begin, int pieces, String... curves) {
        for (String curve : curves) {
            long tolerance = ask("count", 2);
            path(begin + curve);
            ask("setTolerance", (int) tolerance);
            C.due("pieces of " + begin + curve, ask("measure", 0, 1), pieces);
        }
    }

    private static void quads() {
        says("A QUAD from p0 with the control point p1 to p2 is flat if |x0 - 2 * x1 + x2| + |y0 - 2 * y1 + y2| is at most 4 * tolerance.");
        duePieces("M0,0", 1, "Q0,0,16,0", "Q0,0,-16,0", "Q0,0,0,16", "Q0,0,0,-16", "Q0,0,8,8", "Q0,0,-8,8", "Q0,0,8,-8", "Q8,0,32,0");
        duePieces("M0,0", 2, "Q0,0,17,0", "Q0,0,-17,0", "Q0,0,0,17", "Q0,0,0,-17", "Q0,0,8,9", "Q0,0,-8,9", "Q0,0,9,-8", "Q8,0,33,0");
        duePieces("M16,0", 1, "Q0,0,0,0");
        duePieces("M17,0", 2, "Q0,0,0,0");
        // Flat, and p2 is equal to p0.
        duePieces("M0,0", 0, "Q8,0,0,0", "Q0,-8,0,0");
        duePieces("M0,0", 2, "Q9,0,0,0", "Q0,-9,0,0");
        play("setTolerance(1)");
        duePieces("M0,0", 1, "Q0,0,4,0");
        duePieces("M0,0", 2, "Q0,0,5,0");
        play("setTolerance(1000)");
        duePieces("M0,0", 1, "Q0,0,4000,0");
        duePieces("M0,0", 2, "Q0,0,4000,1");

        says("If it is flat, or has been halved 6 times, it adds p2.");
        // x is 2048 * t * t, so a piece bends by 8 after 4 halvings and by 2 after 5.
        path("M0,0Q0,0,2048,0");
        play("setTolerance(1) = 4; measure(0,1) = 32; vertex(0,1,0) = 2; vertex(0,31,0) = 1922; vertex(0,32,0) = 2048");
        // It bends by 8192, so by 8 after 5 halvings and by 2 after 6.
        path("M2048,0Q-2048,0,2048,0");
        play("setTolerance(1) = 4; measure(0,1) = 64; vertex(0,64,0) = 2048");
        // It bends by 32000, so by some 8 after 6 halvings, and is halved no further.
        path("M4000,4000Q-4000,-4000,4000,4000");
        play("setTolerance(1) = 4; measure(0,1) = 64; vertex(0,64,0) = 4000; vertex(0,32,0) = 0");

        says("Otherwise it is halved: with m(p, q) as the point ((px + qx) >> 1, (py + qy) >> 1), and a = m(p0, p1), b = m(p1, p2), c = m(a, b), the curve from p0 with a to c is treated first, and then that from c with b to p2.");
        path("M0,0Q10,20,20,0");
        dueVertices(0, 0, 0, 10, 10, 20, 0);
        path("M0,0Q0,0,100,0");
        dueVertices(0, 0, 0, 6, 0, 25, 0, 56, 0, 100, 0);
        path("M0,0Q0,-100,0,0");
        // a and b are -50, as is c; both halves bend by 50, and their halves by 12.
        dueVertices(0, 0, 0, 0, -38, 0, -50, 0, -38, 0, 0);
    }

    private static void cubics() {
        says("A CUBIC from p0 with the control points p1 and p2 to p3 is flat if |x0 - 2 * x1 + x2| + |y0 - 2 * y1 + y2| and |x1 - 2 * x2 + x3| + |y1 - 2 * y2 + y3| are at most 2 * tolerance.");
        // The first sum alone: 8 and 9.
        duePieces("M0,0", 1, "C0,0,8,0,16,0", "C0,0,-8,0,-16,0", "C0,0,0,8,0,16", "C0,0,4,4,8,8", "C0,0,-4,4,-8,8");
        duePieces("M0,0", 2, "C0,0,9,0,18,0", "C0,0,-9,0,-18,0", "C0,0,0,9,0,18", "C0,0,4,5,8,10", "C0,0,-4,5,-8,10");
        // The second sum alone.
        duePieces("M0,0", 1, "C0,0,0,0,8,0", "C0,0,0,0,-8,0", "C0,0,0,0,0,8", "C0,0,0,0,-4,-4");
        duePieces("M0,0", 2, "C0,0,0,0,9,0", "C0,0,0,0,-9,0", "C0,0,0,0,0,9", "C0,0,0,0,-4,-5");
        // Both sums are 8: each is to be at most 8, not their sum.
        duePieces("M0,0", 1, "C0,0,8,0,24,0", "C0,0,8,0,8,0");
        duePieces("M8,0", 1, "C0,0,0,0,0,0");
        duePieces("M9,0", 2, "C0,0,0,0,0,0");
        play("setTolerance(1)");
        duePieces("M0,0", 1, "C0,0,0,0,2,0", "C0,0,2,0,4,0");
        // Halved, its f is (1, 0).
        duePieces("M0,0", 2, "C0,0,3,0,6,0");
        play("setTolerance(1000)");
        duePieces("M0,0", 1, "C0,0,0,0,2000,0");
        duePieces("M0,0", 2, "C0,0,0,0,2001,0");

        says("If it is flat, or has been halved 6 times, it adds p3.");
        // x is 3072 * t * t, so a piece bends by 4 at both points after 4 halvings, and by 1 after 5.
        path("M0,0C0,0,1024,0,3072,0");
        play("setTolerance(1) = 4; measure(0,1) = 32; vertex(0,1,0) = 3; vertex(0,31,0) = 2883; vertex(0,32,0) = 3072");
        path("M-4000,-4000C4000,4000,-4000,4000,4000,-4000");
        play("setTolerance(1) = 4; measure(0,1) = 64; vertex(0,64,0) = 4000; vertex(0,64,1) = -4000");

        says("Otherwise it is halved: with a = m(p0, p1), b = m(p1, p2), c = m(p2, p3), d = m(a, b), e = m(b, c), f = m(d, e), the curve from p0 with a and d to f is treated first, and then that from f with e and c to p3.");
        path("M0,0C0,9,9,9,9,0");
        dueVertices(0, 0, 0, 4, 6, 9, 0);
        path("M0,0C0,-9,-9,-9,-9,0");
        dueVertices(0, 0, 0, -5, -7, -9, 0);
        path("M0,0C0,0,0,0,9,0");
        dueVertices(0, 0, 0, 1, 0, 9, 0);
        path("M0,0C0,0,9,0,18,0");
        dueVertices(0, 0, 0, 5, 0, 18, 0);
        // f is (24, 0); the halves bend by 16 at their second and first point and are halved again.
        path("M0,0C0,0,64,0,0,0");
        dueVertices(0, 0, 0, 9, 0, 24, 0, 27, 0, 0, 0);
    }

    private static void dueLength(int dx, int dy, int length) {
        fresh();
        ask("move", dx > 4000 ? -4000 : 0, dy > 4000 ? -4000 : 0);
        ask("line", dx > 4000 ? dx - 4000 : dx, dy > 4000 ? dy - 4000 : dy);
        C.due("length of (" + dx + ", " + dy + ")", ask("measure", 0, 2), length);
    }

    private static void lengths() {
        says("The length of a segment with the differences dx and dy of its vertices is the greatest integer whose square is at most 256 * (dx * dx + dy * dy).");
        dueLength(3, 4, 80);
        dueLength(-3, 4, 80);
        dueLength(-4, -3, 80);
        dueLength(1, 0, 16);
        dueLength(0, -1, 16);
        dueLength(1, 1, 22);
        // 45 * 45 is 2025, 46 * 46 is 2116, and 256 * 8 is 2048.
        dueLength(2, 2, 45);
        // 129 * 129 is 16641, and 256 * 65 is 16640.
        dueLength(8, 1, 128);
        dueLength(-1, 8, 128);
        // 113 * 113 is 12769, 114 * 114 is 12996, and 256 * 50 is 12800.
        dueLength(5, 5, 113);
        dueLength(7, 1, 113);
        dueLength(8000, 0, 128000);
        dueLength(0, 8000, 128000);
        // 127984 * 127984 is 16379904256; 256 more are 256 * (7999 * 7999 + 1).
        dueLength(7999, 1, 127984);
        dueLength(8000, 8000, 181019);

        says("The length of a contour is the sum of the lengths of its segments.", "The distance of a vertex is the sum of the lengths of the segments of its contour before it.");
        path("M0,0L1,1L2,2L3,3M7,7L8,8M1,1");
        play("measure(0,2) = 66; measure(1,2) = 22; measure(2,2) = 0; measure(-1,2) = 88");
        play("vertex(0,0,2) = 0; vertex(0,1,2) = 22; vertex(0,2,2) = 44; vertex(0,3,2) = 66; vertex(1,0,2) = 0; vertex(1,1,2) = 22; vertex(2,0,2) = 0");
    }

    private static void points() {
        says("The point of a contour at a distance s, from 0 to its length, lies on its first segment at whose second vertex the distance is at least s.");
        path("M0,0L3,4L3,14");
        play("at(0,-1,2) = NOT_POSSIBLE; at(0,0,2) = 0; at(0,79,2) = 0; at(0,80,2) = 0; at(0,81,2) = 1; at(0,240,2) = 1; at(0,241,2) = NOT_POSSIBLE");

        says("With the vertices (x, y) and (x + dx, y + dy) of this segment, t as s minus the distance of its first vertex, and l as its length, it is (x + dx * t / l, y + dy * t / l).");
        path("M0,0L3,4L3,14");
        play("at(0,0,0) = 0; at(0,0,1) = 0; at(0,26,0) = 0; at(0,27,0) = 1; at(0,19,1) = 0; at(0,20,1) = 1");
        play("at(0,80,0) = 3; at(0,80,1) = 4; at(0,95,1) = 4; at(0,96,1) = 5; at(0,240,0) = 3; at(0,240,1) = 14");
        path("M5,5L6,6L6,5");
        play("at(0,21,0) = 5; at(0,22,0) = 6; at(0,22,1) = 6; at(0,37,1) = 6; at(0,38,1) = 5");
        path("M-4000,-4000L4000,4000");
        play("at(0,90509,0) = -1; at(0,90510,0) = 0; at(0,181018,0) = 3999; at(0,181019,1) = 4000");

        says("A contour without segments has no points at distances.");
        path("M5,5M5,5ZM5,5L5,5M5,5L6,5");
        play("at(0,0,0) = NOT_POSSIBLE; at(1,0,0) = NOT_POSSIBLE; at(2,0,0) = NOT_POSSIBLE; at(3,0,0) = 5");
    }

    private static void dashes() {
        says("The dash pattern consists of up to 6 lengths, none initially.");
        play("count(5) = 0; clearDashes(0) = 0; addDash(1) = 1; addDash(2) = 2; addDash(3) = 3; addDash(4) = 4; addDash(5) = 5; addDash(6) = 6; addDash(7) = TOO_MANY; count(5) = 6");

        says("Their number has to be even to be used.");
        path("M0,0L10,0");
        play("dash(0,-1,0) = NOT_POSSIBLE; addDash(10) = 1; dash(0,-1,0) = NOT_POSSIBLE; addDash(10) = 2; dash(0,-1,0) = 8");
        play("addDash(10) = 3; dash(0,-1,0) = NOT_POSSIBLE; addDash(10) = 4; dash(0,-1,0) = 8");
        play("addDash(10) = 5; dash(0,-1,0) = NOT_POSSIBLE; addDash(10) = 6; dash(0,-1,0) = 8");

        says("Beginning at the distance -phase of a contour, the lengths follow one another along the contour, again and again; at the even positions of the pattern there is a dash, at the odd ones a gap.");
        path("M0,0L10,0M0,0L0,5");
        pattern(0, 10, 20, 30, 40);
        dueDashes(0, 0, 10, 30, 60, 100, 110, 130, 160);
        dueDashes(1, 0, 10, 30, 60);
        pattern(5, 10, 20, 30, 40);
        dueDashes(0, 0, 5, 25, 55, 95, 105, 125, 155);
        dueDashes(1, 0, 5, 25, 55);
        pattern(99, 10, 20, 30, 40);
        dueDashes(0, 1, 11, 31, 61, 101, 111, 131, 160);
        pattern(100, 10, 20, 30, 40);
        dueDashes(0, 0, 10, 30, 60, 100, 110, 130, 160);
        pattern(105, 10, 20, 30, 40);
        dueDashes(0, 0, 5, 25, 55, 95, 105, 125, 155);
        // 100000 is 1515 * 66 + 10.
        pattern(100000, 10, 1, 20, 2, 30, 3);
        dueDashes(0, 1, 21, 23, 53, 56, 66, 67, 87, 89, 119, 122, 132, 133, 153, 155, 160);

        says("The dashes of a contour are those parts of dashes that lie from 0 to its length and have a length above 0, in ascending order.");
        path("M0,0L10,0M5,5M5,5Z");
        pattern(0, 50, 60);
        dueDashes(0, 0, 50, 110, 160);
        pattern(49, 50, 60);
        dueDashes(0, 0, 1, 61, 111);
        pattern(50, 50, 60);
        dueDashes(0, 60, 110);
        pattern(0, 50, 109);
        dueDashes(0, 0, 50, 159, 160);
        pattern(0, 50, 110);
        dueDashes(0, 0, 50);
        pattern(0, 159, 1);
        dueDashes(0, 0, 159);
        pattern(0, 160, 1);
        dueDashes(0, 0, 160);
        pattern(0, 161, 1);
        dueDashes(0, 0, 160);
        dueDashes(1);
        dueDashes(2);
        pattern(1, 161, 1);
        dueDashes(0, 0, 160);
        dueDashes(1);
        pattern(50, 50, 160);
        dueDashes(0);
    }

    static void pattern(int phase, int... lengths) {
        ask("clearDashes", phase);
        for (int length : lengths) ask("addDash", length);
    }
}
