// Paths of lines and Bezier curves in integer arithmetic, as shared/DOC.md promises them.
//
// Every array is made in a constructor and used again: a run of calls makes no
// further objects, so its length does not matter for the room that it takes.
public final class PathFlattener {
    public static final int LIMIT = -1000000;
    public static final int NO_SUCH = -1 + LIMIT, BAD_VALUE = -2 + LIMIT, BAD_TEXT = -3 + LIMIT, TOO_MANY = -4 + LIMIT, NOT_POSSIBLE = -5 + LIMIT, NONE = -6 + LIMIT;
    public static final long GONE = -1000000000000000000L;
    public static final int MOVE = 0, LINE = 1, QUAD = 2, CUBIC = 3, CLOSE = 4;
    public static final int HIDE = 0, SQUEEZE = 1, ROUND = 2, MOVE_ON = 3;

    private static final int MOST_COMMANDS = 24;
    private static final int MOST_NUMBERS = 6;
    private static final int FARTHEST = 4000;
    private static final int MOST_HALVINGS = 6;
    private static final int MOST_PIECES = 64;
    private static final int MOST_VERTICES = MOST_COMMANDS * MOST_PIECES;
    private static final int MOST_CHARACTERS = 120;
    private static final int LONGEST_SPELLING = 36;
    private static final int MOST_LENGTHS = 6;
    private static final int MOST_DASHES = 1000;
    private static final int MOST_LETTERS = 24;
    private static final int ALPHABET = 26;
    private static final int MOST_PAIRS = 20;
    private static final int SLOTS = 2;
    private static final int NOTHING_SAVED = 0;
    private static final String CAPITALS = "MLQCZ", SMALLS = "mlqc";
    // By kind. A CLOSE keeps the point of its MOVE, so that it flattens as a LINE does.
    private static final int[] POINTS = {1, 1, 2, 3, 1};

    private final Path path;
    private final Path spare;
    private final Path firstSaved;
    private final Path secondSaved;
    private final int[] savedTolerances;
    private final Flat cachedFlat;
    private final Simplifier simplifier;
    private final Dashes dashes;
    private final Lettering lettering;
    private final Pad pad;
    private final Speller speller;
    private int tolerance;
    private boolean stale;

    public PathFlattener() {
        path = new Path();
        spare = new Path();
        firstSaved = new Path();
        secondSaved = new Path();
        savedTolerances = new int[SLOTS];
        cachedFlat = new Flat();
        simplifier = new Simplifier();
        dashes = new Dashes();
        lettering = new Lettering();
        pad = new Pad();
        speller = new Speller();
        tolerance = 4;
        stale = false;
    }

    public int move(int x, int y) {
        if (!fits(x) || !fits(y)) {
            return BAD_VALUE;
        }
        return append(MOVE, x, y, 0, 0, 0, 0);
    }

    public int line(int x, int y) {
        if (!fits(x) || !fits(y)) {
            return BAD_VALUE;
        }
        return goOn(LINE, x, y, 0, 0, 0, 0);
    }

    public int quad(int cx, int cy, int x, int y) {
        if (!fits(cx) || !fits(cy) || !fits(x) || !fits(y)) {
            return BAD_VALUE;
        }
        return goOn(QUAD, cx, cy, x, y, 0, 0);
    }

    public int cubic(int ax, int ay, int bx, int by, int x, int y) {
        if (!fits(ax) || !fits(ay) || !fits(bx) || !fits(by) || !fits(x) || !fits(y)) {
            return BAD_VALUE;
        }
        return goOn(CUBIC, ax, ay, bx, by, x, y);
    }

    public int close() {
        int start = path.firstOf(path.contours - 1);
        return goOn(CLOSE, path.endX(start), path.endY(start), 0, 0, 0, 0);
    }

    public int removeLast() {
        if (path.size == 0) {
            return NOT_POSSIBLE;
        }
        path.dropLast();
        stale = true;
        return path.size;
    }

    public int command(int command, int what) {
        if (command < 0 || command >= path.size) {
            return NO_SUCH;
        }
        switch (what) {
            case 0:
                return path.kindOf(command);
            case 1:
                return path.contourOf(command);
            case 2:
                return flattened().lengthMadeBy(command);
            case 3:
                return path.endX(command);
            case 4:
                return path.endY(command);
            case 5:
            case 6:
            case 7:
            case 8:
                return path.control(command, what - 5);
            default:
                return BAD_VALUE;
        }
    }

    public int setTolerance(int tolerance) {
        if (!between(tolerance, 1, 1000)) {
            return BAD_VALUE;
        }
        int previous = this.tolerance;
        this.tolerance = tolerance;
        stale = true;
        return previous;
    }

    public int reverse(int contour) {
        if (!isContour(contour)) {
            return NO_SUCH;
        }
        spare.becomeReversed(path, contour);
        path.become(spare);
        stale = true;
        return path.behind(contour) - path.firstOf(contour);
    }

    public int transform(int a, int b, int c, int d, int e, int f) {
        boolean turns = between(a, -1024, 1024) && between(b, -1024, 1024) && between(c, -1024, 1024) && between(d, -1024, 1024);
        if (!turns || !between(e, -8000, 8000) || !between(f, -8000, 8000)) {
            return BAD_VALUE;
        }
        spare.becomeTransformed(path, a, b, c, d, e, f);
        if (!spare.isInRange()) {
            return NOT_POSSIBLE;
        }
        path.become(spare);
        stale = true;
        return path.size;
    }

    public int say(int character) {
        if (!between(character, 33, 126)) {
            return BAD_VALUE;
        }
        if (pad.size >= MOST_CHARACTERS) {
            return TOO_MANY;
        }
        pad.append((char) character);
        return pad.size;
    }

    public int wipe() {
        int size = pad.size;
        pad.size = 0;
        return size;
    }

    public int fault() {
        return pad.readInto(spare);
    }

    public int load() {
        if (pad.readInto(spare) != NONE) {
            return BAD_TEXT;
        }
        if (pad.commandsRead() > MOST_COMMANDS) {
            return TOO_MANY;
        }
        if (!spare.isInRange()) {
            return NOT_POSSIBLE;
        }
        path.become(spare);
        stale = true;
        pad.size = 0;
        return path.size;
    }

    public int spell(int index) {
        speller.spellOut(path);
        if (index == -1) {
            return speller.size;
        }
        return speller.characterAt(index);
    }

    public int measure(int contour, int what) {
        if (contour != -1 && !isContour(contour)) {
            return NO_SUCH;
        }
        Flat flat = flattened();
        int from = contour == -1 ? 0 : contour;
        int to = contour == -1 ? path.contours : contour + 1;
        switch (what) {
            case 0:
                return flat.verticesIn(from, to);
            case 1:
                return flat.segmentsIn(from, to);
            case 2:
                return flat.lengthIn(from, to);
            case 3:
                return path.areClosed(from, to) ? 1 : 0;
            default:
                return BAD_VALUE;
        }
    }

    public int vertex(int contour, int vertex, int what) {
        if (!isContour(contour)) {
            return NO_SUCH;
        }
        Flat flat = flattened();
        if (vertex < 0 || vertex >= flat.verticesIn(contour, contour + 1)) {
            return NO_SUCH;
        }
        return flat.vertexNumber(flat.firstOf(contour) + vertex, what);
    }

    public int at(int contour, int distance, int what) {
        if (!isContour(contour)) {
            return NO_SUCH;
        }
        if (!between(what, 0, 4)) {
            return BAD_VALUE;
        }
        Flat flat = flattened();
        if (!flat.hasSegments(contour) || !between(distance, 0, flat.lengthOf(contour))) {
            return NOT_POSSIBLE;
        }
        return flat.pointNumber(contour, distance, what);
    }

    public int nearest(int x, int y, int what) {
        if (!fits(x) || !fits(y) || !between(what, 0, 3)) {
            return BAD_VALUE;
        }
        Flat flat = flattened();
        if (flat.segmentsIn(0, path.contours) == 0) {
            return NOT_POSSIBLE;
        }
        return flat.nearestNumber(x, y, what);
    }

    public int winding(int x, int y) {
        if (!fits(x) || !fits(y)) {
            return BAD_VALUE;
        }
        return flattened().windingAround(x, y);
    }

    public long area(int contour) {
        if (!isContour(contour)) {
            return GONE;
        }
        return flattened().twiceTheArea(contour);
    }

    public int bound(int contour, int what) {
        boolean isThere = contour == -1 ? path.contours > 0 : isContour(contour);
        if (!isThere) {
            return NO_SUCH;
        }
        if (!between(what, 0, 3)) {
            return BAD_VALUE;
        }
        Flat flat = flattened();
        int from = contour == -1 ? 0 : contour;
        int to = contour == -1 ? path.contours : contour + 1;
        return flat.boundOf(flat.firstOf(from), flat.firstOf(to), what);
    }

    public int simplified(int contour, int limit, int index) {
        if (!isContour(contour)) {
            return NO_SUCH;
        }
        if (!between(limit, 0, 1000)) {
            return BAD_VALUE;
        }
        simplifier.simplify(flattened(), contour, limit);
        return index == -1 ? simplifier.kept() : simplifier.keptVertex(index);
    }

    public int addDash(int length) {
        if (!between(length, 1, 100000)) {
            return BAD_VALUE;
        }
        if (dashes.size >= MOST_LENGTHS) {
            return TOO_MANY;
        }
        dashes.append(length);
        return dashes.size;
    }

    public int clearDashes(int phase) {
        if (!between(phase, 0, 100000)) {
            return BAD_VALUE;
        }
        int removed = dashes.size;
        dashes.size = 0;
        dashes.phase = phase;
        return removed;
    }

    public int dash(int contour, int index, int what) {
        if (!isContour(contour)) {
            return NO_SUCH;
        }
        if (!between(what, 0, 1)) {
            return BAD_VALUE;
        }
        if (dashes.size == 0 || dashes.size % 2 != 0) {
            return NOT_POSSIBLE;
        }
        int found = dashes.layAlong(flattened().lengthOf(contour));
        if (found > MOST_DASHES) {
            return TOO_MANY;
        }
        if (index == -1) {
            return found;
        }
        return what == 0 ? dashes.beginOf(index) : dashes.endOf(index);
    }

    public int setWidth(int letter, int width) {
        if (!isLetter(letter)) {
            return NO_SUCH;
        }
        if (!between(width, 1, 4000)) {
            return BAD_VALUE;
        }
        return lettering.changeWidth(letter, width);
    }

    public int setKerning(int left, int right, int amount) {
        if (!isLetter(left) || !isLetter(right)) {
            return NO_SUCH;
        }
        if (!between(amount, -500, 500)) {
            return BAD_VALUE;
        }
        if (amount != 0 && lettering.pairsBeside(left, right) >= MOST_PAIRS) {
            return TOO_MANY;
        }
        return lettering.changeKerning(left, right, amount);
    }

    public int write(int letter) {
        if (!isLetter(letter)) {
            return NO_SUCH;
        }
        if (lettering.size >= MOST_LETTERS) {
            return TOO_MANY;
        }
        lettering.append(letter);
        return lettering.size;
    }

    public int erase() {
        int size = lettering.size;
        lettering.size = 0;
        return size;
    }

    public int arrange(int offset, int spacing, int mode) {
        if (!between(offset, -20000, 100000) || !between(spacing, -100, 1000) || !between(mode, HIDE, MOVE_ON)) {
            return BAD_VALUE;
        }
        lettering.offset = offset;
        lettering.spacing = spacing;
        lettering.mode = mode;
        return lettering.size;
    }

    public int letter(int contour, int index, int what) {
        if (!isContour(contour) || index < 0 || index >= lettering.size) {
            return NO_SUCH;
        }
        if (!between(what, 0, 4)) {
            return BAD_VALUE;
        }
        Flat flat = flattened();
        lettering.layOn(flat, contour);
        return lettering.placeNumber(flat, index, what);
    }

    public int placed(int contour, int what) {
        if (!isContour(contour)) {
            return NO_SUCH;
        }
        if (!between(what, 0, 1)) {
            return BAD_VALUE;
        }
        Flat flat = flattened();
        lettering.layOn(flat, contour);
        return what == 0 ? lettering.lettersPlaced() : lettering.turnsBackward(flat);
    }

    public int count(int what) {
        switch (what) {
            case 0:
                return path.size;
            case 1:
                return path.contours;
            case 2:
                return tolerance;
            case 3:
                return pad.size;
            case 4:
                return lettering.size;
            case 5:
                return dashes.size;
            case 6:
                return lettering.pairs;
            default:
                return BAD_VALUE;
        }
    }

    public int save(int slot) {
        if (slot < 0 || slot >= SLOTS) {
            return BAD_VALUE;
        }
        savedIn(slot).become(path);
        savedTolerances[slot] = tolerance;
        return path.size;
    }

    public int restore(int slot) {
        if (slot < 0 || slot >= SLOTS) {
            return BAD_VALUE;
        }
        if (savedTolerances[slot] == NOTHING_SAVED) {
            return NOT_POSSIBLE;
        }
        path.become(savedIn(slot));
        tolerance = savedTolerances[slot];
        stale = true;
        return path.size;
    }

    private Path savedIn(int slot) {
        return slot == 0 ? firstSaved : secondSaved;
    }

    private int goOn(int kind, int x0, int y0, int x1, int y1, int x2, int y2) {
        if (!path.isOpen()) {
            return NOT_POSSIBLE;
        }
        return append(kind, x0, y0, x1, y1, x2, y2);
    }

    private int append(int kind, int x0, int y0, int x1, int y1, int x2, int y2) {
        if (path.size >= MOST_COMMANDS) {
            return TOO_MANY;
        }
        path.add(kind, x0, y0, x1, y1, x2, y2);
        stale = true;
        return path.size;
    }

    // Flattening waits until someone asks, so that building a path stays cheap.
    private Flat flattened() {
        if (stale) {
            cachedFlat.flatten(path, tolerance);
            stale = false;
        }
        return cachedFlat;
    }

    private boolean isContour(int contour) {
        return contour >= 0 && contour < path.contours;
    }

    private static boolean isLetter(int letter) {
        return letter >= 0 && letter < ALPHABET;
    }

    private static boolean fits(int coordinate) {
        return between(coordinate, -FARTHEST, FARTHEST);
    }

    private static boolean between(int value, int least, int most) {
        return value >= least && value <= most;
    }

    // The commands. A command's points stand in the order in which a text names them,
    // so that the end point is always the last one.
    private static final class Path {
        private final int[] kinds;
        private final int[] numbers;
        int size;
        int contours;

        Path() {
            kinds = new int[MOST_COMMANDS];
            numbers = new int[MOST_COMMANDS * MOST_NUMBERS];
            size = 0;
            contours = 0;
        }

        void clear() {
            size = 0;
            contours = 0;
        }

        void add(int kind, int x0, int y0, int x1, int y1, int x2, int y2) {
            int row = size * MOST_NUMBERS;
            if (!addKind(kind)) {
                return;
            }
            numbers[row] = x0;
            numbers[row + 1] = y0;
            numbers[row + 2] = x1;
            numbers[row + 3] = y1;
            numbers[row + 4] = x2;
            numbers[row + 5] = y2;
        }

        private boolean addKind(int kind) {
            if (size >= MOST_COMMANDS) {
                return false;
            }
            kinds[size] = kind;
            size++;
            if (kind == MOVE) {
                contours++;
            }
            return true;
        }

        void dropLast() {
            if (size == 0) {
                return;
            }
            size--;
            if (kinds[size] == MOVE) {
                contours--;
            }
        }

        void become(Path other) {
            size = other.size;
            contours = other.contours;
            System.arraycopy(other.kinds, 0, kinds, 0, kinds.length);
            System.arraycopy(other.numbers, 0, numbers, 0, numbers.length);
        }

        boolean isOpen() {
            return size > 0 && kinds[size - 1] != CLOSE;
        }

        int kindOf(int command) {
            return command >= 0 && command < size ? kinds[command] : MOVE;
        }

        int pointsOf(int command) {
            return POINTS[kindOf(command)];
        }

        int numberOf(int command, int place) {
            boolean isThere = command >= 0 && command < size && place >= 0 && place < MOST_NUMBERS;
            return isThere ? numbers[command * MOST_NUMBERS + place] : 0;
        }

        int endX(int command) {
            return numberOf(command, 2 * pointsOf(command) - 2);
        }

        int endY(int command) {
            return numberOf(command, 2 * pointsOf(command) - 1);
        }

        int control(int command, int place) {
            return place < 2 * pointsOf(command) - 2 ? numberOf(command, place) : NONE;
        }

        int contourOf(int command) {
            int moves = 0;
            for (int i = 0; i < size && i <= command; i++) {
                if (kinds[i] == MOVE) {
                    moves++;
                }
            }
            return moves - 1;
        }

        // Where a contour's MOVE stands; behind the last contour, the number of commands.
        int firstOf(int contour) {
            int moves = 0;
            for (int i = 0; i < size; i++) {
                if (kinds[i] == MOVE) {
                    if (moves == contour) {
                        return i;
                    }
                    moves++;
                }
            }
            return size;
        }

        int behind(int contour) {
            return firstOf(contour + 1);
        }

        boolean areClosed(int from, int to) {
            for (int contour = from; contour < to; contour++) {
                if (kindOf(behind(contour) - 1) != CLOSE) {
                    return false;
                }
            }
            return true;
        }

        boolean isInRange() {
            for (int i = 0; i < size; i++) {
                int used = 2 * pointsOf(i);
                for (int place = 0; place < used; place++) {
                    if (!fits(numberOf(i, place))) {
                        return false;
                    }
                }
            }
            return true;
        }

        void becomeTransformed(Path other, int a, int b, int c, int d, int e, int f) {
            become(other);
            for (int i = 0; i < size * MOST_NUMBERS; i += 2) {
                int x = numbers[i];
                int y = numbers[i + 1];
                numbers[i] = ((a * x + c * y) >> 8) + e;
                numbers[i + 1] = ((b * x + d * y) >> 8) + f;
            }
        }

        void becomeReversed(Path other, int contour) {
            clear();
            int first = other.firstOf(contour);
            int behind = other.behind(contour);
            boolean closed = other.kindOf(behind - 1) == CLOSE;
            int last = closed ? behind - 2 : behind - 1;
            addCopies(other, 0, first);
            add(MOVE, other.endX(last), other.endY(last), 0, 0, 0, 0);
            for (int i = last; i > first; i--) {
                addBackward(other, i);
            }
            if (closed) {
                add(CLOSE, other.endX(last), other.endY(last), 0, 0, 0, 0);
            }
            addCopies(other, behind, other.size);
        }

        private void addCopies(Path other, int from, int to) {
            for (int i = from; i < to; i++) {
                add(other.kindOf(i), other.numberOf(i, 0), other.numberOf(i, 1), other.numberOf(i, 2), other.numberOf(i, 3), other.numberOf(i, 4), other.numberOf(i, 5));
            }
        }

        private void addBackward(Path other, int command) {
            int x = other.endX(command - 1);
            int y = other.endY(command - 1);
            int kind = other.kindOf(command);
            if (kind == CUBIC) {
                add(CUBIC, other.numberOf(command, 2), other.numberOf(command, 3), other.numberOf(command, 0), other.numberOf(command, 1), x, y);
            } else if (kind == QUAD) {
                add(QUAD, other.numberOf(command, 0), other.numberOf(command, 1), x, y, 0, 0);
            } else {
                add(kind, x, y, 0, 0, 0, 0);
            }
        }
    }

    // Halves a curve into flat pieces. The pieces that wait stand in a stack, the next
    // one on top; each half is halved once more than what it is a half of.
    private static final class Halver {
        private final int[][] pieces;
        private final int[] halvings;
        private int waiting;
        private int last;

        Halver() {
            pieces = new int[MOST_HALVINGS + 1][MOST_NUMBERS + 2];
            halvings = new int[MOST_HALVINGS + 1];
            waiting = 0;
            last = 0;
        }

        void begin(Path path, int command, int x, int y) {
            last = path.pointsOf(command);
            waiting = 1;
            halvings[0] = 0;
            int[] whole = pieces[0];
            whole[0] = x;
            whole[1] = y;
            for (int place = 0; place < 2 * last; place++) {
                whole[place + 2] = path.numberOf(command, place);
            }
        }

        boolean hasMore() {
            return waiting > 0;
        }

        // Halves the next piece until it is flat, and leaves it on top.
        void halveNext(int tolerance) {
            int most = last == 2 ? 4 * tolerance : 2 * tolerance;
            for (int i = 0; i < MOST_HALVINGS; i++) {
                int top = waiting - 1;
                if (top < 0 || halvings[top] >= MOST_HALVINGS || waiting >= pieces.length || isFlat(pieces[top], most)) {
                    return;
                }
                halve(pieces[top], pieces[top + 1]);
                halvings[top]++;
                halvings[top + 1] = halvings[top];
                waiting++;
            }
        }

        int nextX() {
            return waiting > 0 ? pieces[waiting - 1][2 * last] : 0;
        }

        int nextY() {
            return waiting > 0 ? pieces[waiting - 1][2 * last + 1] : 0;
        }

        void dropNext() {
            if (waiting > 0) {
                waiting--;
            }
        }

        private boolean isFlat(int[] piece, int most) {
            for (int point = 0; point + 2 <= last; point++) {
                int place = 2 * point;
                int bendX = Math.abs(piece[place] - 2 * piece[place + 2] + piece[place + 4]);
                int bendY = Math.abs(piece[place + 1] - 2 * piece[place + 3] + piece[place + 5]);
                if (bendX + bendY > most) {
                    return false;
                }
            }
            return true;
        }

        // Replacing points by middles from the front on leaves the points of the second
        // half behind, in their order; the first point after each round is one of the first half.
        private void halve(int[] piece, int[] firstHalf) {
            firstHalf[0] = piece[0];
            firstHalf[1] = piece[1];
            for (int round = 1; round <= last; round++) {
                for (int place = 0; place < 2 * (last + 1 - round); place++) {
                    piece[place] = (piece[place] + piece[place + 2]) >> 1;
                }
                firstHalf[2 * round] = piece[0];
                firstHalf[2 * round + 1] = piece[1];
            }
        }
    }

    // The flattened path: all vertices in one row, each contour's from firsts[contour] on;
    // one more entry of firsts holds the size, where a further contour would begin.
    // A segment is known by the index of its second vertex.
    private static final class Flat {
        private final int[] xs;
        private final int[] ys;
        private final int[] distances;
        private final int[] makers;
        private final int[] firsts;
        private final boolean[] closed;
        private final Halver halver;
        private int size;
        int contours;

        Flat() {
            xs = new int[MOST_VERTICES];
            ys = new int[MOST_VERTICES];
            distances = new int[MOST_VERTICES];
            makers = new int[MOST_VERTICES];
            firsts = new int[MOST_COMMANDS + 1];
            closed = new boolean[MOST_COMMANDS];
            halver = new Halver();
            size = 0;
            contours = 0;
        }

        void flatten(Path path, int tolerance) {
            size = 0;
            contours = 0;
            firsts[0] = 0;
            for (int i = 0; i < path.size; i++) {
                int kind = path.kindOf(i);
                if (kind == MOVE) {
                    beginContour(i, path.endX(i), path.endY(i));
                } else if (kind == QUAD || kind == CUBIC) {
                    addCurve(path, i, tolerance);
                } else {
                    addVertex(i, path.endX(i), path.endY(i));
                }
                if (kind == CLOSE && contours > 0) {
                    closed[contours - 1] = true;
                }
            }
        }

        private void beginContour(int command, int x, int y) {
            if (contours >= MOST_COMMANDS) {
                return;
            }
            closed[contours] = false;
            contours++;
            append(command, x, y, 0);
        }

        private void addCurve(Path path, int command, int tolerance) {
            halver.begin(path, command, path.endX(command - 1), path.endY(command - 1));
            for (int piece = 0; piece < MOST_PIECES && halver.hasMore(); piece++) {
                halver.halveNext(tolerance);
                addVertex(command, halver.nextX(), halver.nextY());
                halver.dropNext();
            }
        }

        private void addVertex(int command, int x, int y) {
            if (size < 1) {
                return;
            }
            int dx = x - xs[size - 1];
            int dy = y - ys[size - 1];
            if (dx != 0 || dy != 0) {
                append(command, x, y, distances[size - 1] + segmentLength(dx, dy));
            }
        }

        private void append(int command, int x, int y, int distance) {
            if (size >= MOST_VERTICES) {
                return;
            }
            xs[size] = x;
            ys[size] = y;
            distances[size] = distance;
            makers[size] = command;
            size++;
            firsts[contours] = size;
        }

        // No segment is longer than 16 * 8000 * sqrt(2), so 18 bits hold every length.
        private static int segmentLength(int dx, int dy) {
            long square = 256L * ((long) dx * dx + (long) dy * dy);
            long root = 0;
            for (int bit = 17; bit >= 0; bit--) {
                long tried = root + (1L << bit);
                if (tried * tried <= square) {
                    root = tried;
                }
            }
            return (int) root;
        }

        int firstOf(int contour) {
            return contour >= 0 && contour <= contours ? firsts[contour] : size;
        }

        int verticesIn(int from, int to) {
            return firstOf(to) - firstOf(from);
        }

        int segmentsIn(int from, int to) {
            return verticesIn(from, to) - (to - from);
        }

        int lengthIn(int from, int to) {
            int length = 0;
            for (int contour = from; contour < to; contour++) {
                length += lengthOf(contour);
            }
            return length;
        }

        boolean has(int contour) {
            return contour >= 0 && contour < contours;
        }

        boolean hasSegments(int contour) {
            return has(contour) && segmentsIn(contour, contour + 1) > 0;
        }

        boolean isClosed(int contour) {
            return has(contour) && closed[contour];
        }

        private boolean isVertex(int vertex) {
            return vertex >= 0 && vertex < size;
        }

        int lengthOf(int contour) {
            int last = firstOf(contour + 1) - 1;
            return has(contour) && isVertex(last) ? distances[last] : 0;
        }

        int lengthMadeBy(int command) {
            int length = 0;
            for (int i = 1; i < size; i++) {
                // A MOVE makes a vertex, but no segment.
                if (makers[i] == command && distances[i] > 0) {
                    length += distances[i] - distances[i - 1];
                }
            }
            return length;
        }

        int vertexNumber(int vertex, int what) {
            if (!isVertex(vertex)) {
                return NO_SUCH;
            }
            switch (what) {
                case 0:
                    return xs[vertex];
                case 1:
                    return ys[vertex];
                case 2:
                    return distances[vertex];
                default:
                    return BAD_VALUE;
            }
        }

        // Only for a contour with segments, and a distance from 0 to its length.
        int segmentAt(int contour, int distance) {
            int behind = firstOf(contour + 1);
            for (int i = firstOf(contour) + 1; i < behind; i++) {
                if (distances[i] >= distance) {
                    return i;
                }
            }
            return behind - 1;
        }

        int pointNumber(int contour, int distance, int what) {
            int segment = segmentAt(contour, distance);
            switch (what) {
                case 0:
                    return along(xs, segment, distance);
                case 1:
                    return along(ys, segment, distance);
                case 2:
                    return numberOf(segment, contour);
                case 3:
                    return difference(xs, segment);
                default:
                    return difference(ys, segment);
            }
        }

        // Each contour has one segment less than it has vertices.
        private static int numberOf(int segment, int contour) {
            return segment - 1 - contour;
        }

        private int difference(int[] coordinates, int segment) {
            return segment >= 1 && segment < size ? coordinates[segment] - coordinates[segment - 1] : 0;
        }

        private int along(int[] coordinates, int segment, int distance) {
            int length = difference(distances, segment);
            if (length == 0) {
                return 0;
            }
            long way = (long) difference(coordinates, segment) * (distance - distances[segment - 1]) / length;
            return coordinates[segment - 1] + (int) way;
        }

        boolean isBackward(int segment, int previous) {
            int products = difference(xs, segment) * difference(xs, previous) + difference(ys, segment) * difference(ys, previous);
            return products < 0;
        }

        int nearestNumber(int x, int y, int what) {
            int best = 0;
            int bestContour = 0;
            int bestSquare = Integer.MAX_VALUE;
            for (int contour = 0; contour < contours; contour++) {
                for (int i = firsts[contour] + 1; i < firsts[contour + 1]; i++) {
                    int square = squareTo(i, x, y);
                    if (square < bestSquare) {
                        best = i;
                        bestContour = contour;
                        bestSquare = square;
                    }
                }
            }
            switch (what) {
                case 0:
                    return nearestOn(xs, best, x, y);
                case 1:
                    return nearestOn(ys, best, x, y);
                case 2:
                    return numberOf(best, bestContour);
                default:
                    return bestSquare;
            }
        }

        private int squareTo(int segment, int x, int y) {
            int dx = nearestOn(xs, segment, x, y) - x;
            int dy = nearestOn(ys, segment, x, y) - y;
            return dx * dx + dy * dy;
        }

        private int nearestOn(int[] coordinates, int segment, int x, int y) {
            long dx = difference(xs, segment);
            long dy = difference(ys, segment);
            long whole = dx * dx + dy * dy;
            if (whole == 0) {
                return 0;
            }
            long part = dx * (x - xs[segment - 1]) + dy * (y - ys[segment - 1]);
            part = Math.min(Math.max(part, 0), whole);
            return coordinates[segment - 1] + (int) (difference(coordinates, segment) * part / whole);
        }

        // From where the line to a vertex comes: for a contour's first vertex, the line
        // that closes the contour, which is a mere point if the contour ends where it begins.
        private int vertexBefore(int vertex, int contour) {
            return vertex > firstOf(contour) ? vertex - 1 : firstOf(contour + 1) - 1;
        }

        int windingAround(int x, int y) {
            int winding = 0;
            for (int contour = 0; contour < contours; contour++) {
                for (int i = firsts[contour]; i < firsts[contour + 1]; i++) {
                    winding += crossing(vertexBefore(i, contour), i, x, y);
                }
            }
            return winding;
        }

        private int crossing(int from, int to, int x, int y) {
            if (!isVertex(from) || !isVertex(to)) {
                return 0;
            }
            boolean up = ys[from] <= y && ys[to] > y;
            boolean down = ys[to] <= y && ys[from] > y;
            int side = (xs[to] - xs[from]) * (y - ys[from]) - (x - xs[from]) * (ys[to] - ys[from]);
            if (up && side > 0) {
                return 1;
            }
            return down && side < 0 ? -1 : 0;
        }

        long twiceTheArea(int contour) {
            long sum = 0;
            for (int i = firstOf(contour); i < firstOf(contour + 1); i++) {
                sum += turn(vertexBefore(i, contour), i);
            }
            return sum;
        }

        private int turn(int from, int to) {
            return isVertex(from) && isVertex(to) ? xs[from] * ys[to] - xs[to] * ys[from] : 0;
        }

        // What a squared deviation has to be compared by in place of 1.
        long deviationScale(int from, int to) {
            if (!isVertex(from) || !isVertex(to)) {
                return 1;
            }
            long dx = xs[to] - xs[from];
            long dy = ys[to] - ys[from];
            return dx == 0 && dy == 0 ? 1 : dx * dx + dy * dy;
        }

        long deviation(int from, int to, int vertex) {
            if (!isVertex(from) || !isVertex(to) || !isVertex(vertex)) {
                return 0;
            }
            long dx = xs[to] - xs[from];
            long dy = ys[to] - ys[from];
            long awayX = xs[vertex] - xs[from];
            long awayY = ys[vertex] - ys[from];
            if (dx == 0 && dy == 0) {
                return awayX * awayX + awayY * awayY;
            }
            long cross = dx * awayY - dy * awayX;
            return cross * cross;
        }

        int boundOf(int from, int to, int what) {
            int[] coordinates = what % 2 == 0 ? xs : ys;
            int bound = isVertex(from) ? coordinates[from] : 0;
            for (int i = from; i < to && i < size; i++) {
                bound = what < 2 ? Math.min(bound, coordinates[i]) : Math.max(bound, coordinates[i]);
            }
            return bound;
        }
    }

    // Which vertices of a contour are kept.
    private static final class Simplifier {
        private final boolean[] keeps;
        private int first;
        private int size;

        Simplifier() {
            keeps = new boolean[MOST_VERTICES];
            first = 0;
            size = 0;
        }

        // Every round keeps one more vertex or goes on to the next kept one.
        void simplify(Flat flat, int contour, int limit) {
            first = flat.firstOf(contour);
            size = flat.verticesIn(contour, contour + 1);
            for (int i = 0; i < size; i++) {
                keeps[i] = i == 0 || i == size - 1;
            }
            int from = 0;
            for (int round = 0; round < 2 * size && from < size - 1; round++) {
                int to = nextKept(from);
                int worst = worstBetween(flat, from, to, limit);
                if (worst > from) {
                    keeps[worst] = true;
                } else {
                    from = to;
                }
            }
        }

        private int nextKept(int from) {
            for (int i = from + 1; i < size; i++) {
                if (keeps[i]) {
                    return i;
                }
            }
            return size - 1;
        }

        private int worstBetween(Flat flat, int from, int to, int limit) {
            long greatest = (long) limit * limit * flat.deviationScale(first + from, first + to);
            int worst = from;
            for (int i = from + 1; i < to; i++) {
                long deviation = flat.deviation(first + from, first + to, first + i);
                if (deviation > greatest) {
                    greatest = deviation;
                    worst = i;
                }
            }
            return worst;
        }

        int kept() {
            int kept = 0;
            for (int i = 0; i < size; i++) {
                if (keeps[i]) {
                    kept++;
                }
            }
            return kept;
        }

        int keptVertex(int index) {
            int kept = 0;
            for (int i = 0; i < size; i++) {
                if (keeps[i]) {
                    if (kept == index) {
                        return i;
                    }
                    kept++;
                }
            }
            return NONE;
        }
    }

    // The dash pattern, and the dashes that it makes along a contour.
    private static final class Dashes {
        private final int[] lengths;
        private final int[] begins;
        private final int[] ends;
        private int found;
        int size;
        int phase;

        Dashes() {
            lengths = new int[MOST_LENGTHS];
            begins = new int[MOST_DASHES];
            ends = new int[MOST_DASHES];
            found = 0;
            size = 0;
            phase = 0;
        }

        void append(int length) {
            if (size < MOST_LENGTHS) {
                lengths[size] = length;
                size++;
            }
        }

        // Answers the number of dashes; with too many, just one that is too great.
        int layAlong(int length) {
            found = 0;
            int period = 0;
            for (int i = 0; i < size; i++) {
                period += lengths[i];
            }
            if (period <= 0) {
                return 0;
            }
            // Whole periods before the contour's begin make no dash on it.
            int position = -(phase % period);
            // Every round but the first one finds at least one dash.
            for (int round = 0; round < 2 * MOST_DASHES && position < length; round++) {
                layPattern(position, length);
                position += period;
            }
            return found;
        }

        private void layPattern(int position, int length) {
            int begin = position;
            for (int i = 0; i + 1 < size; i += 2) {
                int end = begin + lengths[i];
                keep(Math.max(begin, 0), Math.min(end, length));
                begin = end + lengths[i + 1];
            }
        }

        private void keep(int begin, int end) {
            if (begin >= end || found > MOST_DASHES) {
                return;
            }
            if (found < MOST_DASHES) {
                begins[found] = begin;
                ends[found] = end;
            }
            found++;
        }

        private boolean has(int index) {
            return index >= 0 && index < found && index < MOST_DASHES;
        }

        int beginOf(int index) {
            return has(index) ? begins[index] : NONE;
        }

        int endOf(int index) {
            return has(index) ? ends[index] : NONE;
        }
    }

    // The letters, and where they come to lie on a path.
    private static final class Lettering {
        private static final int NOWHERE = -1;
        private static final int NO_LETTER = -1;

        private final int[] letters;
        private final int[] widths;
        private final int[] kernings;
        private final int[] centers;
        private final int[] homes;
        int size;
        int pairs;
        int offset;
        int spacing;
        int mode;

        Lettering() {
            letters = new int[MOST_LETTERS];
            widths = new int[ALPHABET];
            kernings = new int[ALPHABET * ALPHABET];
            centers = new int[MOST_LETTERS];
            homes = new int[MOST_LETTERS];
            size = 0;
            pairs = 0;
            offset = 0;
            spacing = 0;
            mode = HIDE;
            for (int i = 0; i < ALPHABET; i++) {
                widths[i] = 160;
            }
        }

        void append(int letter) {
            if (size < MOST_LETTERS && isLetter(letter)) {
                letters[size] = letter;
                size++;
            }
        }

        int changeWidth(int letter, int width) {
            if (!isLetter(letter)) {
                return NO_SUCH;
            }
            int previous = widths[letter];
            widths[letter] = width;
            return previous;
        }

        private int kerningOf(int left, int right) {
            return isLetter(left) && isLetter(right) ? kernings[left * ALPHABET + right] : 0;
        }

        int pairsBeside(int left, int right) {
            return kerningOf(left, right) == 0 ? pairs : pairs - 1;
        }

        int changeKerning(int left, int right, int amount) {
            if (!isLetter(left) || !isLetter(right)) {
                return NO_SUCH;
            }
            pairs = pairsBeside(left, right) + (amount == 0 ? 0 : 1);
            kernings[left * ALPHABET + right] = amount;
            return pairs;
        }

        private int letterAt(int index) {
            return index >= 0 && index < size ? letters[index] : NO_LETTER;
        }

        private int widthAt(int index) {
            int letter = letterAt(index);
            return isLetter(letter) ? widths[letter] : 0;
        }

        // How far behind the begin of a letter the next one begins.
        private int stepAfter(int index) {
            return widthAt(index) + spacing + kerningOf(letterAt(index), letterAt(index + 1));
        }

        void layOn(Flat flat, int contour) {
            if (mode == MOVE_ON) {
                layMovingOn(flat, contour);
            } else {
                layOnOne(flat, contour);
            }
        }

        private void layOnOne(Flat flat, int contour) {
            int length = flat.lengthOf(contour);
            boolean round = mode == ROUND && flat.isClosed(contour) && length != 0;
            int end = endOfAll();
            boolean squeezed = mode == SQUEEZE && end > length && offset < length;
            int begin = offset;
            for (int i = 0; i < size; i++) {
                int center = begin + widthAt(i) / 2;
                if (round) {
                    center = Math.floorMod(center, length);
                } else if (squeezed) {
                    center = squeeze(center, length, end);
                }
                boolean fitsIn = flat.hasSegments(contour) && between(center, 0, length);
                centers[i] = center;
                homes[i] = fitsIn ? contour : NOWHERE;
                begin += stepAfter(i);
            }
        }

        private int endOfAll() {
            int begin = offset;
            for (int i = 0; i + 1 < size; i++) {
                begin += stepAfter(i);
            }
            return size == 0 ? begin : begin + widthAt(size - 1);
        }

        private int squeeze(int center, int length, int end) {
            int whole = end - offset;
            if (whole <= 0) {
                return center;
            }
            return offset + (int) ((long) (center - offset) * (length - offset) / whole);
        }

        private void layMovingOn(Flat flat, int contour) {
            int home = contour;
            int begin = offset;
            for (int i = 0; i < size; i++) {
                int width = widthAt(i);
                while (home < flat.contours && (!flat.hasSegments(home) || begin + width > flat.lengthOf(home))) {
                    home++;
                    begin = 0;
                }
                int center = begin + width / 2;
                centers[i] = center;
                homes[i] = flat.has(home) && center >= 0 ? home : NOWHERE;
                begin += stepAfter(i);
            }
        }

        int placeNumber(Flat flat, int index, int what) {
            if (index < 0 || index >= size || homes[index] == NOWHERE) {
                return NONE;
            }
            switch (what) {
                case 0:
                    return homes[index];
                case 1:
                    return centers[index];
                default:
                    return flat.pointNumber(homes[index], centers[index], what - 2);
            }
        }

        int lettersPlaced() {
            int number = 0;
            for (int i = 0; i < size; i++) {
                if (homes[i] != NOWHERE) {
                    number++;
                }
            }
            return number;
        }

        // Homes only ever move on, so the placed letter before is the only candidate.
        int turnsBackward(Flat flat) {
            int number = 0;
            int home = NOWHERE;
            int segment = 0;
            for (int i = 0; i < size; i++) {
                if (homes[i] != NOWHERE) {
                    int next = flat.segmentAt(homes[i], centers[i]);
                    if (homes[i] == home && flat.isBackward(next, segment)) {
                        number++;
                    }
                    home = homes[i];
                    segment = next;
                }
            }
            return number;
        }
    }

    // The text from which a path can be read.
    private static final class Pad {
        private final char[] text;
        private final Reader reader;
        int size;

        Pad() {
            text = new char[MOST_CHARACTERS];
            reader = new Reader();
            size = 0;
        }

        void append(char character) {
            if (size < MOST_CHARACTERS) {
                text[size] = character;
                size++;
            }
        }

        // Answers the fault, or NONE; what was read before a fault stands in the path.
        int readInto(Path path) {
            path.clear();
            reader.begin();
            for (int i = 0; i < size; i++) {
                if (!reader.takes(text[i], path)) {
                    return i;
                }
            }
            if (!reader.isWhole()) {
                return size;
            }
            reader.finishCommand(path);
            return NONE;
        }

        int commandsRead() {
            return reader.commands;
        }
    }

    // Reads a path character by character. A command is put into the path when the next
    // one begins or the text ends, because its last number may go on until then.
    private static final class Reader {
        private static final int NOTHING = -1;

        private final int[] numbers;
        private int kind;
        private boolean small;
        private int needed;
        private int complete;
        private int value;
        private int digits;
        private boolean negative;
        private int x;
        private int y;
        private int startX;
        private int startY;
        int commands;

        Reader() {
            numbers = new int[MOST_NUMBERS];
            begin();
        }

        void begin() {
            kind = NOTHING;
            small = false;
            needed = 0;
            complete = 0;
            x = 0;
            y = 0;
            startX = 0;
            startY = 0;
            commands = 0;
            beginNumber();
        }

        private void beginNumber() {
            value = 0;
            digits = 0;
            negative = false;
        }

        boolean takes(char character, Path path) {
            if (character >= '0' && character <= '9') {
                return takesDigit(character - '0');
            }
            if (character == '-') {
                return takesMinus();
            }
            if (character == ',') {
                return takesComma();
            }
            return takesKind(character, path);
        }

        private boolean takesDigit(int digit) {
            boolean leadingZero = digits > 0 && value == 0;
            int longer = 10 * value + digit;
            if (complete >= needed || leadingZero || longer > FARTHEST) {
                return false;
            }
            value = longer;
            digits++;
            return true;
        }

        private boolean takesMinus() {
            if (complete >= needed || negative || digits > 0) {
                return false;
            }
            negative = true;
            return true;
        }

        private boolean takesComma() {
            if (digits == 0 || complete + 1 >= needed) {
                return false;
            }
            finishNumber();
            return true;
        }

        private boolean takesKind(char character, Path path) {
            boolean isSmall = CAPITALS.indexOf(character) < 0;
            int next = isSmall ? SMALLS.indexOf(character) : CAPITALS.indexOf(character);
            if (next < 0 || !canBegin(next)) {
                return false;
            }
            finishCommand(path);
            kind = next;
            small = isSmall;
            needed = kind == CLOSE ? 0 : 2 * POINTS[kind];
            complete = 0;
            beginNumber();
            return true;
        }

        private boolean canBegin(int next) {
            if (kind == NOTHING) {
                return next == MOVE;
            }
            return isWhole() && (kind != CLOSE || next == MOVE);
        }

        // Whether the text could end here.
        boolean isWhole() {
            if (kind == NOTHING) {
                return false;
            }
            return kind == CLOSE || (digits > 0 && complete + 1 == needed);
        }

        private void finishNumber() {
            if (complete < MOST_NUMBERS) {
                numbers[complete] = negative ? -value : value;
                complete++;
            }
            beginNumber();
        }

        void finishCommand(Path path) {
            if (kind == NOTHING) {
                return;
            }
            commands++;
            if (kind == CLOSE) {
                x = startX;
                y = startY;
                path.add(CLOSE, x, y, 0, 0, 0, 0);
                return;
            }
            finishNumber();
            if (small) {
                shiftNumbers();
            }
            x = needed >= 2 && needed <= MOST_NUMBERS ? numbers[needed - 2] : 0;
            y = needed >= 2 && needed <= MOST_NUMBERS ? numbers[needed - 1] : 0;
            if (kind == MOVE) {
                startX = x;
                startY = y;
            }
            path.add(kind, numbers[0], numbers[1], numbers[2], numbers[3], numbers[4], numbers[5]);
        }

        private void shiftNumbers() {
            for (int i = 0; i < needed && i < MOST_NUMBERS; i++) {
                numbers[i] += i % 2 == 0 ? x : y;
            }
        }
    }

    // Writes a path as a text.
    private static final class Speller {
        private final char[] text;
        int size;

        Speller() {
            text = new char[MOST_COMMANDS * LONGEST_SPELLING];
            size = 0;
        }

        int characterAt(int index) {
            return index >= 0 && index < size ? text[index] : NONE;
        }

        void spellOut(Path path) {
            size = 0;
            for (int i = 0; i < path.size; i++) {
                int kind = path.kindOf(i);
                append(CAPITALS.charAt(kind));
                if (kind != CLOSE) {
                    spellNumbers(path, i);
                }
            }
        }

        private void spellNumbers(Path path, int command) {
            int used = 2 * path.pointsOf(command);
            for (int place = 0; place < used; place++) {
                if (place > 0) {
                    append(',');
                }
                spellNumber(path.numberOf(command, place));
            }
        }

        private void spellNumber(int number) {
            if (number < 0) {
                append('-');
            }
            int rest = Math.abs(number);
            for (int unit = 1000; unit > 0; unit /= 10) {
                if (rest >= unit || unit == 1) {
                    append((char) ('0' + rest / unit % 10));
                }
            }
        }

        private void append(char character) {
            if (size < text.length) {
                text[size] = character;
                size++;
            }
        }
    }
}
