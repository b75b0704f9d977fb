// The sentences of the promises 17 to 24.
final class FlatEdges extends Edges {
    static void run() {
        measure();
        vertex();
        at();
        nearest();
        nearestErrors();
        winding();
        area();
        bound();
        simplified();
        simplifiedArguments();
    }

    private static void measure() {
        promise(17);
        says("Returns a number about the flattened path.", "- `contour`: a contour, or -1 for all together", "Returns the number;");
        path("M0,0L3,4L3,4L0,0ZM1,1L1,2M5,5");
        play("measure(0,0) = 3; measure(0,1) = 2; measure(0,2) = 160; measure(0,3) = 1");
        play("measure(1,0) = 2; measure(1,1) = 1; measure(1,2) = 16; measure(1,3) = 0");
        play("measure(2,0) = 1; measure(2,1) = 0; measure(2,2) = 0; measure(2,3) = 0");
        play("measure(-1,0) = 6; measure(-1,1) = 3; measure(-1,2) = 176; measure(-1,3) = 0");

        says("- `what`: 0 for the number of vertices, 1 for the number of segments, 2 for the length, 3 for whether it is closed (1 or 0; for -1, whether all contours are, also if there are none)");
        play("measure(-1,0) = 0; measure(-1,1) = 0; measure(-1,2) = 0; measure(-1,3) = 1");
        play("move(0,0); measure(-1,3) = 0; measure(0,3) = 0; close(); measure(-1,3) = 1; measure(0,3) = 1");
        play("move(0,0); measure(-1,3) = 0; close(); measure(-1,3) = 1; removeLast(); removeLast(); measure(-1,3) = 1; removeLast(); measure(-1,3) = 0");
        play("move(1,1); close(); measure(-1,3) = 0; measure(0,3) = 0; measure(1,3) = 1");
        // Closed is what has a CLOSE, not what ends where it begins.
        path("M0,0L1,1L0,0M1,1Z");
        play("measure(0,3) = 0; measure(1,3) = 1; measure(-1,3) = 0");

        says("NO_SUCH if there is no such contour;");
        play("measure(0,0) = NO_SUCH; measure(-1,0) = 0; measure(-2,0) = NO_SUCH");
        path("M0,0L1,1M1,1");
        play("measure(-2,0) = NO_SUCH; measure(-1,0) = 3; measure(0,0) = 2; measure(1,0) = 1; measure(2,0) = NO_SUCH; measure(MIN,0) = NO_SUCH; measure(MAX,0) = NO_SUCH");
        play("removeLast(); measure(1,0) = NO_SUCH; measure(0,0) = 2");

        says("BAD_VALUE if what is not 0 to 3.");
        play("measure(-1,-1) = BAD_VALUE; measure(-1,0) = 0; measure(-1,3) = 1; measure(-1,4) = BAD_VALUE");
        path("M0,0");
        play("measure(0,-1) = BAD_VALUE; measure(0,0) = 1; measure(0,3) = 0; measure(0,4) = BAD_VALUE; measure(0,MIN) = BAD_VALUE; measure(-1,MAX) = BAD_VALUE");
    }

    private static void vertex() {
        promise(18);
        says("Returns a property of a vertex.", "- `contour`: the contour", "- `vertex`: the index of the vertex in it", "- `what`: 0 for x, 1 for y, 2 for its distance", "Returns the property;");
        path("M1,2L4,6M7,8L7,8L7,10");
        play("vertex(0,0,0) = 1; vertex(0,0,1) = 2; vertex(0,0,2) = 0; vertex(0,1,0) = 4; vertex(0,1,1) = 6; vertex(0,1,2) = 80");
        play("vertex(1,0,0) = 7; vertex(1,0,1) = 8; vertex(1,0,2) = 0; vertex(1,1,0) = 7; vertex(1,1,1) = 10; vertex(1,1,2) = 32");

        says("NO_SUCH if there is no such contour or vertex;");
        play("vertex(0,0,0) = NO_SUCH");
        path("M1,2L4,6M7,8");
        play("vertex(-1,0,0) = NO_SUCH; vertex(0,0,0) = 1; vertex(1,0,0) = 7; vertex(2,0,0) = NO_SUCH; vertex(MIN,0,0) = NO_SUCH; vertex(MAX,0,0) = NO_SUCH");
        // A vertex of the next or the previous contour is none of this one.
        play("vertex(0,-1,0) = NO_SUCH; vertex(0,1,0) = 4; vertex(0,2,0) = NO_SUCH; vertex(1,-1,0) = NO_SUCH; vertex(1,1,0) = NO_SUCH; vertex(0,MIN,0) = NO_SUCH; vertex(1,MAX,0) = NO_SUCH");

        says("BAD_VALUE if what is not 0 to 2.");
        path("M1,2L4,6");
        play("vertex(0,1,-1) = BAD_VALUE; vertex(0,1,0) = 4; vertex(0,1,2) = 80; vertex(0,1,3) = BAD_VALUE; vertex(0,0,MIN) = BAD_VALUE; vertex(0,0,MAX) = BAD_VALUE");
    }

    private static void at() {
        promise(19);
        says("Returns a property of the point at a distance.", "- `contour`: the contour", "- `distance`: the distance", "- `what`: 0 for x, 1 for y, 2 for the number of the segment, 3 and 4 for the dx and dy of the segment", "Returns the property;");
        path("M9,9M0,0L-3,-4L-3,6M1,1L2,2");
        duePoint(0, 0, 0, 0, -3, -4);
        duePoint(79, -2, -3, 0, -3, -4);
        duePoint(80, -3, -4, 0, -3, -4);
        duePoint(81, -3, -4, 1, 0, 10);
        duePoint(96, -3, -3, 1, 0, 10);
        duePoint(240, -3, 6, 1, 0, 10);
        play("at(2,0,0) = 1; at(2,0,2) = 2; at(2,22,0) = 2; at(2,22,3) = 1; at(2,22,4) = 1");

        says("NO_SUCH if there is no such contour;");
        play("at(0,0,0) = NO_SUCH");
        path("M0,0L1,0M5,5L6,5");
        play("at(-1,0,0) = NO_SUCH; at(0,0,0) = 0; at(1,0,0) = 5; at(2,0,0) = NO_SUCH; at(MIN,0,0) = NO_SUCH; at(MAX,0,0) = NO_SUCH");

        says("BAD_VALUE if what is not 0 to 4;");
        path("M0,0L1,2");
        play("at(0,0,-1) = BAD_VALUE; at(0,0,0) = 0; at(0,0,4) = 2; at(0,0,5) = BAD_VALUE; at(0,0,MIN) = BAD_VALUE; at(0,0,MAX) = BAD_VALUE");

        says("NOT_POSSIBLE if the contour has no segments, or distance is not 0 to its length.");
        path("M5,5M5,5ZM5,5L5,5M5,5L6,5M5,5L5,7L5,5");
        play("at(0,0,0) = NOT_POSSIBLE; at(1,0,0) = NOT_POSSIBLE; at(2,0,0) = NOT_POSSIBLE; at(0,0,2) = NOT_POSSIBLE");
        play("at(3,-1,0) = NOT_POSSIBLE; at(3,0,0) = 5; at(3,16,0) = 6; at(3,17,0) = NOT_POSSIBLE; at(3,MIN,0) = NOT_POSSIBLE; at(3,MAX,0) = NOT_POSSIBLE");
        play("at(4,-1,1) = NOT_POSSIBLE; at(4,32,1) = 7; at(4,64,1) = 5; at(4,65,1) = NOT_POSSIBLE");
    }

    private static void duePoint(int distance, int... properties) {
        for (int what = 0; what < properties.length; what++) due(properties[what], "at", 1, distance, what);
    }

    private static void dueNearest(int x, int y, int... properties) {
        for (int what = 0; what < properties.length; what++) due(properties[what], "nearest", x, y, what);
    }

    private static void nearest() {
        promise(20);
        says("Finds the point of the path that is nearest to a point.", "- `what`: 0 for its x, 1 for its y, 2 for the number of the segment, 3 for the squared distance", "Returns that number;");
        path("M5,5M0,0L10,0L10,10M20,0L20,10");
        dueNearest(5, 3, 5, 0, 0, 9);
        dueNearest(13, 14, 10, 10, 1, 25);
        dueNearest(16, 5, 20, 5, 2, 16);
        dueNearest(20, 10, 20, 10, 2, 0);
        // A contour without segments has no point, though it is the nearest.
        dueNearest(5, 5, 5, 0, 0, 25);

        says("For each segment with the first vertex (x0, y0) and the differences dx and dy, let q be dx * (x - x0) + dy * (y - y0), limited to at least 0 and at most n = dx * dx + dy * dy; its nearest point is (x0 + dx * q / n, y0 + dy * q / n).");
        path("M2,3L12,3");
        dueNearest(1, 3, 2, 3, 0, 1);
        dueNearest(2, 3, 2, 3, 0, 0);
        dueNearest(3, 3, 3, 3, 0, 0);
        dueNearest(12, 3, 12, 3, 0, 0);
        dueNearest(13, 3, 12, 3, 0, 1);
        dueNearest(-4000, 3, 2, 3, 0, 4002 * 4002);
        path("M3,12L3,2");
        dueNearest(3, 13, 3, 12, 0, 1);
        dueNearest(3, 12, 3, 12, 0, 0);
        dueNearest(0, 4, 3, 4, 0, 9);
        dueNearest(3, 2, 3, 2, 0, 0);
        dueNearest(3, 1, 3, 2, 0, 1);
        // q is 7 and n is 25: 21 / 25 and 28 / 25.
        path("M0,0L3,4");
        dueNearest(1, 1, 0, 1, 0, 1);
        path("M0,0L-3,-4");
        dueNearest(-1, -1, 0, -1, 0, 1);
        path("M10,10L7,6");
        dueNearest(9, 9, 10, 9, 0, 1);
        path("M-4000,-4000L4000,4000");
        dueNearest(4000, 4000, 4000, 4000, 0, 0);
        // 8000 * (8000 * 7999 + 8000 * 8000) / 128000000 is 7999.5.
        dueNearest(3999, 4000, 3999, 3999, 0, 1);
        dueNearest(4000, -4000, 0, 0, 0, 32000000);
        path("M-4000,-4000L-4000,-3999");
        dueNearest(4000, 4000, -4000, -3999, 0, 64000000 + 7999 * 7999);

        says("The nearest point of the path is the one of these with the smallest squared distance to (x, y); of several, that of the segment with the lowest number.");
        path("M0,0L10,0M0,2L10,2");
        dueNearest(5, 1, 5, 0, 0, 1);
        dueNearest(5, 2, 5, 2, 1, 0);
        path("M0,2L10,2M0,0L10,0");
        dueNearest(5, 1, 5, 2, 0, 1);
        path("M0,0L10,0L10,10L0,10Z");
        dueNearest(10, 0, 10, 0, 0, 0);
        dueNearest(12, -1, 10, 0, 0, 5);
        dueNearest(11, 11, 10, 10, 1, 2);
        dueNearest(0, 0, 0, 0, 0, 0);
        dueNearest(-1, 9, 0, 9, 3, 1);
        dueNearest(5, 5, 5, 0, 0, 25);
        // The distance to the truncated point counts: on the first line this is (2, 1), not
        // (2.08, 1.56), and its squared distance is 5, not 3.24.
        path("M0,0L4,3M1,5L2,6");
        dueNearest(1, 3, 1, 5, 1, 4);
        path("M0,0L4,3");
        dueNearest(1, 3, 2, 1, 0, 5);
    }

    private static void nearestErrors() {
        says("- `x`: -4000 to 4000", "- `y`: -4000 to 4000", "BAD_VALUE if an argument is out of range;");
        path("M0,0L1,0");
        play("nearest(-4001,0,0) = BAD_VALUE; nearest(-4000,0,0) = 0; nearest(4000,0,0) = 1; nearest(4001,0,0) = BAD_VALUE");
        play("nearest(0,-4001,0) = BAD_VALUE; nearest(0,-4000,3) = 16000000; nearest(0,4000,3) = 16000000; nearest(0,4001,0) = BAD_VALUE");
        play("nearest(0,0,-1) = BAD_VALUE; nearest(1,0,0) = 1; nearest(0,1,3) = 1; nearest(0,0,4) = BAD_VALUE");
        play("nearest(MIN,0,0) = BAD_VALUE; nearest(0,MAX,0) = BAD_VALUE; nearest(0,0,MIN) = BAD_VALUE; nearest(0,0,MAX) = BAD_VALUE");

        says("NOT_POSSIBLE if there are no segments.");
        play("nearest(0,0,0) = NOT_POSSIBLE; move(0,0); nearest(0,0,3) = NOT_POSSIBLE; line(0,0); nearest(0,0,0) = NOT_POSSIBLE; close(); nearest(0,0,0) = NOT_POSSIBLE");
        play("move(0,0); nearest(0,0,0) = NOT_POSSIBLE; line(0,1); nearest(0,0,3) = 0; removeLast(); nearest(0,0,3) = NOT_POSSIBLE");
    }

    private static void winding() {
        promise(21);
        says("Returns the winding number of the path around a point, where each contour that does not end where it begins is closed by a straight line:");
        play("winding(0,0) = 0; move(0,0); winding(0,0) = 0; line(10,0); line(10,10); winding(9,5) = 1; winding(4,5) = 0; line(0,10); winding(4,5) = 1");
        play("close(); winding(4,5) = 1; removeLast(); line(0,0); winding(4,5) = 1; close(); winding(4,5) = 1");
        // Each contour is closed for itself.
        path("M0,0L10,0L10,10M0,10L0,0");
        play("winding(5,4) = 1; winding(4,5) = 0");
        path("M0,0L10,0L10,10L0,10ZM2,2L8,2L8,8L2,8ZM20,0L30,0L30,10L20,10Z");
        play("winding(5,5) = 2; winding(1,5) = 1; winding(15,5) = 0; winding(25,5) = 1; reverse(1); winding(5,5) = 0; reverse(0); winding(5,5) = -2; winding(1,5) = -1; winding(25,5) = 1");

        says("the number of segments (these lines included) from (x0, y0) to (x1, y1) with y0 at most y and y1 greater than y that have the point on their left side, minus the number of those with y1 at most y and y0 greater than y that have it on their right side.");
        path("M0,0L10,0L10,10L0,10Z");
        play("winding(5,-1) = 0; winding(5,0) = 1; winding(5,1) = 1; winding(5,9) = 1; winding(5,10) = 0; winding(5,11) = 0");
        play("winding(-1,0) = 0; winding(0,0) = 1; winding(10,0) = 0; winding(0,10) = 0; winding(10,10) = 0");
        play("reverse(0); winding(5,-1) = 0; winding(5,0) = -1; winding(5,9) = -1; winding(5,10) = 0; winding(0,0) = -1; winding(10,0) = 0; winding(-1,0) = 0");
        // At the height of the corners to the right and to the left of the point.
        path("M0,0L10,-10L20,0L10,10Z");
        play("winding(10,0) = 1; winding(-1,0) = 0; winding(0,0) = 1; winding(20,0) = 0; winding(19,0) = 1; winding(10,-10) = 0; winding(10,-9) = 1; winding(10,10) = 0; winding(10,9) = 1");

        says("The point is on the left side if (x1 - x0) * (y - y0) - (x - x0) * (y1 - y0) is greater than 0, on the right side if it is less than 0.");
        path("M0,0L10,0L10,10L0,10Z");
        play("winding(-1,5) = 0; winding(0,5) = 1; winding(1,5) = 1; winding(9,5) = 1; winding(10,5) = 0; winding(11,5) = 0");
        play("reverse(0); winding(-1,5) = 0; winding(0,5) = -1; winding(9,5) = -1; winding(10,5) = 0; winding(11,5) = 0");
        // Left by 1, and right by 1: (1 - 0) * (1 - 0) - (0 - 0) * (2 - 0), and the other way round.
        path("M0,0L1,2L0,2");
        play("winding(0,1) = 1; reverse(0); winding(0,1) = -1");
        // Left of the slanting line is where y is greater than x.
        path("M0,0L10,10L0,10");
        play("winding(4,5) = 1; winding(5,5) = 0; winding(6,5) = 0; winding(0,5) = 1; winding(-1,5) = 0");
        path("M0,0L0,10L10,10");
        play("winding(4,5) = -1; winding(5,5) = 0; winding(6,5) = 0; winding(0,5) = -1; winding(-1,5) = 0");
        path("M-4000,-4000L4000,-4000L4000,4000L-4000,4000Z");
        play("winding(0,0) = 1; winding(-4000,-4000) = 1; winding(3999,3999) = 1; winding(4000,0) = 0; winding(0,4000) = 0; winding(4000,4000) = 0");
        path("M-4000,-4000L4000,4000L-4000,4000");
        play("winding(-1,0) = 1; winding(0,0) = 0; winding(1,0) = 0; winding(3998,3999) = 1; winding(3999,3999) = 0; winding(-4000,3999) = 1");

        says("- `x`: -4000 to 4000", "- `y`: -4000 to 4000", "Returns the winding number;", "BAD_VALUE if a coordinate is out of range.");
        play("winding(-4001,0) = BAD_VALUE; winding(-4000,0) = 0; winding(4000,0) = 0; winding(4001,0) = BAD_VALUE");
        play("winding(0,-4001) = BAD_VALUE; winding(0,-4000) = 0; winding(0,4000) = 0; winding(0,4001) = BAD_VALUE");
        play("winding(MIN,0) = BAD_VALUE; winding(MAX,0) = BAD_VALUE; winding(0,MIN) = BAD_VALUE; winding(0,MAX) = BAD_VALUE");
    }

    private static void area() {
        promise(22);
        says("Returns twice the area of a contour: the sum of x0 * y1 - x1 * y0 over all its segments, and over the straight line from its last to its first vertex.", "- `contour`: the contour", "Returns that sum;");
        // 1 * 1 - 3 * 2, 3 * 5 - 4 * 1, and behind the last vertex 4 * 2 - 1 * 5.
        path("M1,2L3,1L4,5");
        play("area(0) = 9; close(); area(0) = 9; reverse(0); area(0) = -9");
        path("M1,2L3,1L4,5L1,2M7,7M8,9L8,9ZM1,2L3,5");
        play("area(0) = 9; area(1) = 0; area(2) = 0; area(3) = 0");
        path("M-4000,-4000L4000,-4000L4000,4000L-4000,4000Z");
        play("area(0) = 128000000");
        fresh();
        play("move(-4000,-4000)");
        for (int i = 0; i < 5; i++) play("line(4000,-4000); line(4000,4000); line(-4000,4000); line(-4000,-4000)");
        play("area(0) = 640000000; reverse(0); area(0) = -640000000");

        says("GONE if there is no such contour.");
        play("area(0) = GONE; area(-1) = GONE");
        path("M0,0L1,0L1,1M2,2");
        play("area(-1) = GONE; area(0) = 1; area(1) = 0; area(2) = GONE; area(MIN) = GONE; area(MAX) = GONE; removeLast(); area(1) = GONE");
    }

    private static void bound() {
        promise(23);
        says("Returns a bound of the vertices of a contour.", "- `contour`: a contour, or -1 for all together", "- `what`: 0 for the smallest x, 1 for the smallest y, 2 for the greatest x, 3 for the greatest y", "Returns the bound;");
        path("M5,6L-7,8L9,-10M100,200L150,250");
        play("bound(0,0) = -7; bound(0,1) = -10; bound(0,2) = 9; bound(0,3) = 8");
        play("bound(1,0) = 100; bound(1,1) = 200; bound(1,2) = 150; bound(1,3) = 250");
        play("bound(-1,0) = -7; bound(-1,1) = -10; bound(-1,2) = 150; bound(-1,3) = 250");
        path("M-5,-6");
        play("bound(0,0) = -5; bound(0,1) = -6; bound(0,2) = -5; bound(0,3) = -6; bound(-1,0) = -5; bound(-1,3) = -6");
        // The control point is no vertex; the middle of the curve is at 2000 and at -50.
        path("M0,0Q4000,-100,0,0");
        play("bound(0,2) = 2000; bound(0,1) = -50; bound(0,0) = 0; bound(0,3) = 0");
        path("M0,0Q16,0,32,0M-4000,4000");
        play("bound(0,2) = 32; bound(-1,0) = -4000; bound(-1,3) = 4000; bound(1,1) = 4000; bound(-1,1) = 0");

        says("NO_SUCH if there is no such contour (or, for -1, no contour at all);");
        play("bound(-1,0) = NO_SUCH; bound(0,0) = NO_SUCH; move(3,4); bound(-1,0) = 3; bound(0,0) = 3; bound(1,0) = NO_SUCH; bound(-2,0) = NO_SUCH; bound(MIN,0) = NO_SUCH; bound(MAX,0) = NO_SUCH");
        play("move(1,1); bound(1,0) = 1; bound(2,0) = NO_SUCH; removeLast(); removeLast(); bound(-1,0) = NO_SUCH");

        says("BAD_VALUE if what is not 0 to 3.");
        play("move(3,4); bound(0,-1) = BAD_VALUE; bound(0,0) = 3; bound(0,3) = 4; bound(0,4) = BAD_VALUE; bound(-1,-1) = BAD_VALUE; bound(-1,3) = 4; bound(-1,4) = BAD_VALUE; bound(0,MIN) = BAD_VALUE; bound(0,MAX) = BAD_VALUE");
    }

    private static void simplified() {
        promise(24);
        says("Simplifies the vertices of a contour.", "The first and the last one are kept.");
        path("M0,0L10,1L20,0M5,5M6,6L7,7M8,8ZM0,0L1,0L0,0");
        dueKept(0, 1000, 0, 2);
        dueKept(1, 1000, 0);
        dueKept(2, 1000, 0, 1);
        dueKept(3, 0, 0);
        dueKept(4, 1000, 0, 2);

        says("Of the vertices between two kept ones, the one with the greatest deviation from the straight line through both (of several, the first) is kept, too, if its deviation is greater than a limit;");
        path("M0,0L10,3L20,4L30,0");
        // Of 3 and 4, the 4; the 3 is no 2 from the line to (20, 4).
        dueKept(0, 2, 0, 2, 3);
        // Both (10, 3) and (30, 3) deviate by 3: the first one counts, and the others no more than by 2 then.
        path("M0,0L10,3L20,0L30,3L40,0");
        dueKept(0, 2, 0, 1, 4);
        path("M0,0L10,-3L20,0L30,3L40,0");
        dueKept(0, 2, 0, 1, 3, 4);
        dueKept(0, 3, 0, 4);
        // The line goes on beyond both: (20, 0) and (-5, 0) lie on it.
        path("M0,0L20,0L-5,0L10,0");
        dueKept(0, 0, 0, 3);

        says("and so on, between all kept vertices that follow one another, until no more are kept.");
        path("M0,0L10,0L20,3L30,0L40,-3L50,0");
        dueKept(0, 0, 0, 1, 2, 4, 5);
        dueKept(0, 1, 0, 1, 2, 4, 5);
        dueKept(0, 2, 0, 2, 4, 5);
        dueKept(0, 3, 0, 5);
        path("M0,0L0,10L10,10L10,0L20,0L20,10");
        dueKept(0, 0, 0, 1, 2, 3, 4, 5);

        says("With the kept vertices (x0, y0) and (x0 + dx, y0 + dy) and c = dx * (y - y0) - dy * (x - x0), the deviation of (x, y) is compared by c * c, and is greater than the limit if c * c is greater than limit * limit * (dx * dx + dy * dy).");
        path("M0,0L10,5L20,0");
        dueKept(0, 4, 0, 1, 2);
        dueKept(0, 5, 0, 2);
        path("M7,-9L17,-14L27,-9");
        dueKept(0, 4, 0, 1, 2);
        dueKept(0, 5, 0, 2);
        path("M0,0L3,10L0,20");
        dueKept(0, 2, 0, 1, 2);
        dueKept(0, 3, 0, 2);
        // c is 3 * 4 - 4 * (-3) = 24 on a line 5 long: it deviates by 4.8.
        path("M1,1L-2,5L4,5");
        dueKept(0, 4, 0, 1, 2);
        dueKept(0, 5, 0, 2);
        path("M0,0L10,1000L20,0");
        dueKept(0, 1000, 0, 2);
        dueKept(0, 999, 0, 1, 2);
        path("M0,0L10,1001L20,0");
        dueKept(0, 1000, 0, 1, 2);
        // c is 8000 * 8000, and c * c is far beyond the ints.
        path("M-4000,-4000L4000,4000L4000,-4000");
        dueKept(0, 1000, 0, 1, 2);

        says("If dx and dy are 0, it is compared by (x - x0) * (x - x0) + (y - y0) * (y - y0), and greater than the limit if this is greater than limit * limit.");
        path("M1,1L4,5Z");
        dueKept(0, 4, 0, 1, 2);
        dueKept(0, 5, 0, 2);
        path("M0,0L1000,0Z");
        dueKept(0, 1000, 0, 2);
        dueKept(0, 999, 0, 1, 2);
        path("M0,0L1000,1Z");
        dueKept(0, 1000, 0, 1, 2);
        // Both are 5 away; (5, 0) is the first, and (4, 3) deviates by 3 from the line back.
        path("M0,0L5,0L4,3Z");
        dueKept(0, 4, 0, 1, 3);
        path("M0,0L5,0L4,4Z");
        dueKept(0, 5, 0, 2, 3);
        // Equal in one coordinate alone is not equal.
        path("M0,0L3,4L0,8");
        dueKept(0, 3, 0, 2);
        path("M0,0L4,3L8,0");
        dueKept(0, 3, 0, 2);
    }

    private static void simplifiedArguments() {
        says("- `contour`: the contour", "NO_SUCH if there is no such contour;");
        play("simplified(0,0,-1) = NO_SUCH");
        path("M0,0L1,1M2,2");
        play("simplified(-1,0,-1) = NO_SUCH; simplified(0,0,-1) = 2; simplified(1,0,-1) = 1; simplified(2,0,-1) = NO_SUCH; simplified(MIN,0,0) = NO_SUCH; simplified(MAX,0,0) = NO_SUCH");

        says("- `limit`: 0 to 1000", "BAD_VALUE if limit is out of range.");
        path("M0,0L10,1L20,0");
        play("simplified(0,-1,-1) = BAD_VALUE; simplified(0,0,-1) = 3; simplified(0,1,-1) = 2; simplified(0,1000,-1) = 2; simplified(0,1001,-1) = BAD_VALUE; simplified(0,MIN,0) = BAD_VALUE; simplified(0,MAX,0) = BAD_VALUE");

        says("- `index`: -1 for the number of kept vertices, otherwise an index among them", "Returns the number, or the index in the contour of this kept vertex;");
        path("M5,5L6,6M0,0L10,0L20,0L30,5L40,0");
        // The kept ones are numbered 0 to 3; in their contour they are 0, 2, 3 and 4.
        play("simplified(1,0,-1) = 4; simplified(1,0,0) = 0; simplified(1,0,1) = 2; simplified(1,0,2) = 3; simplified(1,0,3) = 4");

        says("NONE if there is no such index;");
        path("M0,0L10,0L20,0");
        play("simplified(0,0,-2) = NONE; simplified(0,0,-1) = 2; simplified(0,0,0) = 0; simplified(0,0,1) = 2; simplified(0,0,2) = NONE; simplified(0,0,MIN) = NONE; simplified(0,0,MAX) = NONE");
    }
}
