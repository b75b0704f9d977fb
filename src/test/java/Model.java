import java.math.BigInteger;
import java.util.ArrayList;
import java.util.Arrays;
import java.util.HashMap;
import java.util.List;
import java.util.Map;
import java.util.regex.Matcher;
import java.util.regex.Pattern;

// The document once more, told in the plainest way and with the whole Java library:
// everything is worked out anew in each call, so that it shares no idea with the class.
final class Model {
    static final int LIMIT = -1000000;
    static final int NO_SUCH = LIMIT - 1, BAD_VALUE = LIMIT - 2, BAD_TEXT = LIMIT - 3, TOO_MANY = LIMIT - 4, NOT_POSSIBLE = LIMIT - 5, NONE = LIMIT - 6;

    // A command: its letter, and the points that it names (a Z names none).
    record Command(char letter, List<int[]> points) {
        int[] end() {
            return points.get(points.size() - 1);
        }
    }

    record Vertex(int x, int y, int maker) { }

    record Segment(int number, Vertex from, Vertex to, int begin, int length) {
        int dx() {
            return to.x - from.x;
        }

        int dy() {
            return to.y - from.y;
        }

        int[] way(int s) {
            return new int[] {(int) ((long) dx() * (s - begin) / length), (int) ((long) dy() * (s - begin) / length)};
        }
    }

    record Saved(List<Command> path, int tolerance) { }

    record Place(int contour, int center) { }

    private List<Command> path = new ArrayList<>();
    private int tolerance = 4;
    private String pad = "";
    private final Saved[] slots = new Saved[2];
    private final List<Integer> pattern = new ArrayList<>();
    private int phase = 0;
    private final List<Integer> letters = new ArrayList<>();
    private final Map<Integer, Integer> widths = new HashMap<>();
    private final Map<String, Integer> kerning = new HashMap<>();
    private int offset = 0;
    private int spacing = 0;
    private int mode = 0;

    // ---- paths

    private static boolean outside(int low, int high, int... values) {
        return Arrays.stream(values).anyMatch(v -> v < low || v > high);
    }

    private int append(char letter, int... numbers) {
        if (outside(-4000, 4000, numbers)) return BAD_VALUE;
        if (letter != 'M' && (path.isEmpty() || path.get(path.size() - 1).letter == 'Z')) return NOT_POSSIBLE;
        if (path.size() == 24) return TOO_MANY;
        List<int[]> points = new ArrayList<>();
        for (int i = 0; i < numbers.length; i += 2) points.add(new int[] {numbers[i], numbers[i + 1]});
        path.add(new Command(letter, points));
        return path.size();
    }

    public int move(int x, int y) {
        return append('M', x, y);
    }

    public int line(int x, int y) {
        return append('L', x, y);
    }

    public int quad(int cx, int cy, int x, int y) {
        return append('Q', cx, cy, x, y);
    }

    public int cubic(int ax, int ay, int bx, int by, int x, int y) {
        return append('C', ax, ay, bx, by, x, y);
    }

    public int close() {
        return append('Z');
    }

    public int removeLast() {
        if (path.isEmpty()) return NOT_POSSIBLE;
        path.remove(path.size() - 1);
        return path.size();
    }

    private List<List<Command>> contours() {
        List<List<Command>> all = new ArrayList<>();
        for (Command c : path) {
            if (c.letter == 'M') all.add(new ArrayList<>());
            all.get(all.size() - 1).add(c);
        }
        return all;
    }

    private boolean noContour(int contour) {
        return contour < 0 || contour >= contours().size();
    }

    private static boolean isClosed(List<Command> contour) {
        return contour.get(contour.size() - 1).letter == 'Z';
    }

    private int contourOf(int command) {
        return (int) path.subList(0, command + 1).stream().filter(c -> c.letter == 'M').count() - 1;
    }

    public int command(int command, int what) {
        if (command < 0 || command >= path.size()) return NO_SUCH;
        if (outside(0, 8, what)) return BAD_VALUE;
        Command c = path.get(command);
        if (what == 0) return "MLQCZ".indexOf(c.letter);
        if (what == 1) return contourOf(command);
        if (what == 2) {
            int sum = 0;
            for (Segment s : allSegments()) if (s.to.maker == command) sum += s.length;
            return sum;
        }
        if (what <= 4) return (c.letter == 'Z' ? contours().get(contourOf(command)).get(0) : c).end()[what - 3];
        int control = (what - 5) / 2;
        return control < c.points.size() - 1 ? c.points.get(control)[(what - 5) % 2] : NONE;
    }

    public int setTolerance(int tolerance) {
        if (outside(1, 1000, tolerance)) return BAD_VALUE;
        int old = this.tolerance;
        this.tolerance = tolerance;
        return old;
    }

    public int reverse(int contour) {
        if (noContour(contour)) return NO_SUCH;
        List<List<Command>> all = contours();
        List<Command> old = new ArrayList<>(all.get(contour));
        int size = old.size();
        boolean closed = isClosed(old);
        if (closed) old.remove(size - 1);
        List<int[]> points = new ArrayList<>();
        for (Command c : old) points.addAll(c.points);
        java.util.Collections.reverse(points);
        List<Command> turned = new ArrayList<>();
        turned.add(new Command('M', List.of(points.remove(0))));
        for (int i = old.size() - 1; i > 0; i--) {
            int taken = old.get(i).points.size();
            turned.add(new Command(old.get(i).letter, new ArrayList<>(points.subList(0, taken))));
            points = new ArrayList<>(points.subList(taken, points.size()));
        }
        if (closed) turned.add(new Command('Z', List.of()));
        all.set(contour, turned);
        path = new ArrayList<>();
        all.forEach(path::addAll);
        return size;
    }

    public int transform(int a, int b, int c, int d, int e, int f) {
        if (outside(-1024, 1024, a, b, c, d) || outside(-8000, 8000, e, f)) return BAD_VALUE;
        List<Command> moved = new ArrayList<>();
        for (Command old : path) {
            List<int[]> points = new ArrayList<>();
            for (int[] p : old.points) {
                int x = Math.floorDiv(a * p[0] + c * p[1], 256) + e;
                int y = Math.floorDiv(b * p[0] + d * p[1], 256) + f;
                if (outside(-4000, 4000, x, y)) return NOT_POSSIBLE;
                points.add(new int[] {x, y});
            }
            moved.add(new Command(old.letter, points));
        }
        path = moved;
        return path.size();
    }

    // ---- texts

    private static final String NUMBER = "-?(?:0|[1-3][0-9]{0,3}|4000|[4-9][0-9]{0,2})";
    private static final String PAIR = NUMBER + "," + NUMBER;
    private static final String COMMAND = "(?:[Ll]" + PAIR + "|[Qq]" + PAIR + "," + PAIR + "|[Cc]" + PAIR + "," + PAIR + "," + PAIR + ")";
    private static final Pattern PATH = Pattern.compile("(?:[Mm]" + PAIR + COMMAND + "*Z?)+");

    public int say(int character) {
        if (outside(33, 126, character)) return BAD_VALUE;
        if (pad.length() == 120) return TOO_MANY;
        pad += (char) character;
        return pad.length();
    }

    public int wipe() {
        int length = pad.length();
        pad = "";
        return length;
    }

    public int fault() {
        for (int i = 1; i <= pad.length(); i++) {
            Matcher m = PATH.matcher(pad.substring(0, i));
            if (!m.matches() && !m.hitEnd()) return i - 1;
        }
        return PATH.matcher(pad).matches() ? NONE : pad.length();
    }

    public int load() {
        if (fault() != NONE) return BAD_TEXT;
        List<Command> read = new ArrayList<>();
        int[] current = {0, 0};
        int[] start = {0, 0};
        boolean possible = true;
        Matcher m = Pattern.compile("([A-Za-z])([^A-Za-z]*)").matcher(pad);
        while (m.find()) {
            char letter = m.group(1).charAt(0);
            List<int[]> points = new ArrayList<>();
            if (letter == 'Z') {
                current = start;
            } else {
                String[] numbers = m.group(2).split(",");
                for (int i = 0; i < numbers.length; i += 2) {
                    int[] p = {Integer.parseInt(numbers[i]), Integer.parseInt(numbers[i + 1])};
                    if (Character.isLowerCase(letter)) {
                        p[0] += current[0];
                        p[1] += current[1];
                    }
                    possible &= !outside(-4000, 4000, p);
                    points.add(p);
                }
                current = points.get(points.size() - 1);
                if (letter == 'M' || letter == 'm') start = current;
            }
            read.add(new Command(Character.toUpperCase(letter), points));
        }
        if (read.size() > 24) return TOO_MANY;
        if (!possible) return NOT_POSSIBLE;
        path = read;
        pad = "";
        return path.size();
    }

    String spelled() {
        StringBuilder text = new StringBuilder();
        for (Command c : path) {
            text.append(c.letter);
            List<String> numbers = new ArrayList<>();
            for (int[] p : c.points) {
                numbers.add("" + p[0]);
                numbers.add("" + p[1]);
            }
            text.append(String.join(",", numbers));
        }
        return text.toString();
    }

    public int spell(int index) {
        String text = spelled();
        if (index == -1) return text.length();
        return index >= 0 && index < text.length() ? text.charAt(index) : NONE;
    }

    // ---- flattening and lengths

    private static int[] middle(int[] p, int[] q) {
        return new int[] {Math.floorDiv(p[0] + q[0], 2), Math.floorDiv(p[1] + q[1], 2)};
    }

    private static int bend(int[] p, int[] q, int[] r) {
        return Math.abs(p[0] - 2 * q[0] + r[0]) + Math.abs(p[1] - 2 * q[1] + r[1]);
    }

    private void quadPoints(int[] p0, int[] p1, int[] p2, int halved, List<int[]> out) {
        if (halved == 6 || bend(p0, p1, p2) <= 4 * tolerance) {
            out.add(p2);
            return;
        }
        int[] a = middle(p0, p1);
        int[] b = middle(p1, p2);
        int[] c = middle(a, b);
        quadPoints(p0, a, c, halved + 1, out);
        quadPoints(c, b, p2, halved + 1, out);
    }

    private void cubicPoints(int[] p0, int[] p1, int[] p2, int[] p3, int halved, List<int[]> out) {
        if (halved == 6 || Math.max(bend(p0, p1, p2), bend(p1, p2, p3)) <= 2 * tolerance) {
            out.add(p3);
            return;
        }
        int[] a = middle(p0, p1);
        int[] b = middle(p1, p2);
        int[] c = middle(p2, p3);
        int[] d = middle(a, b);
        int[] e = middle(b, c);
        int[] f = middle(d, e);
        cubicPoints(p0, a, d, f, halved + 1, out);
        cubicPoints(f, e, c, p3, halved + 1, out);
    }

    private List<List<Vertex>> vertices() {
        List<List<Vertex>> all = new ArrayList<>();
        int number = 0;
        for (List<Command> contour : contours()) {
            List<Vertex> vertices = new ArrayList<>();
            int[] start = contour.get(0).end();
            int[] current = start;
            for (Command c : contour) {
                List<int[]> out = new ArrayList<>();
                if (c.letter == 'Q') quadPoints(current, c.points.get(0), c.points.get(1), 0, out);
                else if (c.letter == 'C') cubicPoints(current, c.points.get(0), c.points.get(1), c.points.get(2), 0, out);
                else out.add(c.letter == 'Z' ? start : c.end());
                for (int[] p : out) {
                    Vertex last = vertices.isEmpty() ? null : vertices.get(vertices.size() - 1);
                    if (last == null || last.x != p[0] || last.y != p[1]) vertices.add(new Vertex(p[0], p[1], number));
                }
                current = out.get(out.size() - 1);
                number++;
            }
            all.add(vertices);
        }
        return all;
    }

    private List<List<Segment>> segments() {
        List<List<Segment>> all = new ArrayList<>();
        int number = 0;
        for (List<Vertex> vertices : vertices()) {
            List<Segment> segments = new ArrayList<>();
            int begin = 0;
            for (int i = 1; i < vertices.size(); i++) {
                Vertex from = vertices.get(i - 1);
                Vertex to = vertices.get(i);
                long dx = to.x - from.x;
                long dy = to.y - from.y;
                int length = BigInteger.valueOf(256 * (dx * dx + dy * dy)).sqrt().intValueExact();
                segments.add(new Segment(number, from, to, begin, length));
                begin += length;
                number++;
            }
            all.add(segments);
        }
        return all;
    }

    private List<Segment> allSegments() {
        List<Segment> all = new ArrayList<>();
        segments().forEach(all::addAll);
        return all;
    }

    private int lengthOf(int contour) {
        return segments().get(contour).stream().mapToInt(Segment::length).sum();
    }

    public int measure(int contour, int what) {
        if (contour != -1 && noContour(contour)) return NO_SUCH;
        if (outside(0, 3, what)) return BAD_VALUE;
        int sum = 0;
        boolean closed = true;
        for (int k = 0; k < contours().size(); k++) {
            if (contour != -1 && contour != k) continue;
            closed &= isClosed(contours().get(k));
            sum += what == 0 ? vertices().get(k).size() : what == 1 ? segments().get(k).size() : lengthOf(k);
        }
        return what == 3 ? (closed ? 1 : 0) : sum;
    }

    public int vertex(int contour, int vertex, int what) {
        if (noContour(contour) || vertex < 0 || vertex >= vertices().get(contour).size()) return NO_SUCH;
        if (outside(0, 2, what)) return BAD_VALUE;
        Vertex v = vertices().get(contour).get(vertex);
        int distance = 0;
        for (Segment s : segments().get(contour).subList(0, vertex)) distance += s.length;
        return what == 0 ? v.x : what == 1 ? v.y : distance;
    }

    private Segment segmentAt(int contour, int distance) {
        for (Segment s : segments().get(contour)) if (s.begin + s.length >= distance) return s;
        throw new IllegalStateException("no segment at " + distance);
    }

    public int at(int contour, int distance, int what) {
        if (noContour(contour)) return NO_SUCH;
        if (outside(0, 4, what)) return BAD_VALUE;
        if (segments().get(contour).isEmpty() || outside(0, lengthOf(contour), distance)) return NOT_POSSIBLE;
        Segment s = segmentAt(contour, distance);
        int[] way = s.way(distance);
        return new int[] {s.from.x + way[0], s.from.y + way[1], s.number, s.dx(), s.dy()}[what];
    }

    public int nearest(int x, int y, int what) {
        if (outside(-4000, 4000, x, y) || outside(0, 3, what)) return BAD_VALUE;
        int[] best = null;
        for (Segment s : allSegments()) {
            long n = (long) s.dx() * s.dx() + (long) s.dy() * s.dy();
            long q = (long) s.dx() * (x - s.from.x) + (long) s.dy() * (y - s.from.y);
            q = q < 0 ? 0 : q > n ? n : q;
            int px = s.from.x + (int) (s.dx() * q / n);
            int py = s.from.y + (int) (s.dy() * q / n);
            int square = (px - x) * (px - x) + (py - y) * (py - y);
            if (best == null || square < best[3]) best = new int[] {px, py, s.number, square};
        }
        return best == null ? NOT_POSSIBLE : best[what];
    }

    private static List<int[]> ring(List<Vertex> vertices) {
        List<int[]> lines = new ArrayList<>();
        for (int i = 0; i < vertices.size(); i++) {
            Vertex from = vertices.get(i);
            Vertex to = vertices.get((i + 1) % vertices.size());
            lines.add(new int[] {from.x, from.y, to.x, to.y});
        }
        return lines;
    }

    public int winding(int x, int y) {
        if (outside(-4000, 4000, x, y)) return BAD_VALUE;
        int sum = 0;
        for (List<Vertex> vertices : vertices()) {
            for (int[] l : ring(vertices)) {
                long side = (long) (l[2] - l[0]) * (y - l[1]) - (long) (x - l[0]) * (l[3] - l[1]);
                if (l[1] <= y && l[3] > y && side > 0) sum++;
                if (l[3] <= y && l[1] > y && side < 0) sum--;
            }
        }
        return sum;
    }

    public long area(int contour) {
        if (noContour(contour)) return -1000000000000000000L;
        long sum = 0;
        for (int[] l : ring(vertices().get(contour))) sum += (long) l[0] * l[3] - (long) l[2] * l[1];
        return sum;
    }

    public int bound(int contour, int what) {
        if (contour == -1 ? path.isEmpty() : noContour(contour)) return NO_SUCH;
        if (outside(0, 3, what)) return BAD_VALUE;
        List<Integer> values = new ArrayList<>();
        for (int k = 0; k < contours().size(); k++) {
            if (contour != -1 && contour != k) continue;
            for (Vertex v : vertices().get(k)) values.add(what % 2 == 0 ? v.x : v.y);
        }
        return what < 2 ? java.util.Collections.min(values) : java.util.Collections.max(values);
    }

    private static void keepBetween(List<Vertex> vertices, int from, int to, long limit, List<Integer> kept) {
        Vertex a = vertices.get(from);
        Vertex b = vertices.get(to);
        long dx = b.x - a.x;
        long dy = b.y - a.y;
        int worst = -1;
        long greatest = -1;
        for (int i = from + 1; i < to; i++) {
            long x = vertices.get(i).x - a.x;
            long y = vertices.get(i).y - a.y;
            long c = dx * y - dy * x;
            long deviation = dx == 0 && dy == 0 ? x * x + y * y : c * c;
            if (deviation > greatest) {
                greatest = deviation;
                worst = i;
            }
        }
        long most = limit * limit * (dx == 0 && dy == 0 ? 1 : dx * dx + dy * dy);
        if (worst >= 0 && greatest > most) {
            keepBetween(vertices, from, worst, limit, kept);
            kept.add(worst);
            keepBetween(vertices, worst, to, limit, kept);
        }
    }

    public int simplified(int contour, int limit, int index) {
        if (noContour(contour)) return NO_SUCH;
        if (outside(0, 1000, limit)) return BAD_VALUE;
        List<Vertex> vertices = vertices().get(contour);
        List<Integer> kept = new ArrayList<>(List.of(0));
        if (vertices.size() > 1) {
            keepBetween(vertices, 0, vertices.size() - 1, limit, kept);
            kept.add(vertices.size() - 1);
        }
        if (index == -1) return kept.size();
        return index >= 0 && index < kept.size() ? kept.get(index) : NONE;
    }

    // ---- dashes

    public int addDash(int length) {
        if (outside(1, 100000, length)) return BAD_VALUE;
        if (pattern.size() == 6) return TOO_MANY;
        pattern.add(length);
        return pattern.size();
    }

    public int clearDashes(int phase) {
        if (outside(0, 100000, phase)) return BAD_VALUE;
        int size = pattern.size();
        pattern.clear();
        this.phase = phase;
        return size;
    }

    public int dash(int contour, int index, int what) {
        if (noContour(contour)) return NO_SUCH;
        if (outside(0, 1, what)) return BAD_VALUE;
        if (pattern.isEmpty() || pattern.size() % 2 == 1) return NOT_POSSIBLE;
        int length = lengthOf(contour);
        List<int[]> dashes = new ArrayList<>();
        int position = -phase;
        for (int i = 0; position < length && dashes.size() < 1002; i++) {
            int step = pattern.get(i % pattern.size());
            int[] dash = {Math.max(0, position), Math.min(length, position + step)};
            if (i % 2 == 0 && dash[0] < dash[1]) dashes.add(dash);
            position += step;
        }
        if (dashes.size() > 1000) return TOO_MANY;
        if (index == -1) return dashes.size();
        return index >= 0 && index < dashes.size() ? dashes.get(index)[what] : NONE;
    }

    // ---- lettering

    public int setWidth(int letter, int width) {
        if (outside(0, 25, letter)) return NO_SUCH;
        if (outside(1, 4000, width)) return BAD_VALUE;
        Integer old = widths.put(letter, width);
        return old == null ? 160 : old;
    }

    public int setKerning(int left, int right, int amount) {
        if (outside(0, 25, left, right)) return NO_SUCH;
        if (outside(-500, 500, amount)) return BAD_VALUE;
        String pair = left + " " + right;
        if (amount == 0) {
            kerning.remove(pair);
        } else {
            if (!kerning.containsKey(pair) && kerning.size() == 20) return TOO_MANY;
            kerning.put(pair, amount);
        }
        return kerning.size();
    }

    public int write(int letter) {
        if (outside(0, 25, letter)) return NO_SUCH;
        if (letters.size() == 24) return TOO_MANY;
        letters.add(letter);
        return letters.size();
    }

    public int erase() {
        int size = letters.size();
        letters.clear();
        return size;
    }

    public int arrange(int offset, int spacing, int mode) {
        if (outside(-20000, 100000, offset) || outside(-100, 1000, spacing) || outside(0, 3, mode)) return BAD_VALUE;
        this.offset = offset;
        this.spacing = spacing;
        this.mode = mode;
        return letters.size();
    }

    private int width(int index) {
        return widths.getOrDefault(letters.get(index), 160);
    }

    private int gap(int index) {
        return spacing + kerning.getOrDefault(letters.get(index - 1) + " " + letters.get(index), 0);
    }

    // Where each letter would begin if the one with the index zero began at the position start.
    private int[] begins(int zero, int start) {
        int[] begins = new int[letters.size()];
        for (int i = zero; i < begins.length; i++) begins[i] = i == zero ? start : begins[i - 1] + width(i - 1) + gap(i);
        return begins;
    }

    private Place[] places(int contour) {
        Place[] places = new Place[letters.size()];
        if (mode == 3) {
            int home = contour;
            int[] begins = begins(0, offset);
            for (int i = 0; i < places.length; i++) {
                while (home < contours().size() && (segments().get(home).isEmpty() || begins[i] + width(i) > lengthOf(home))) {
                    home++;
                    begins = begins(i, 0);
                }
                if (home == contours().size()) break;
                int center = begins[i] + width(i) / 2;
                if (center >= 0) places[i] = new Place(home, center);
            }
            return places;
        }
        int length = lengthOf(contour);
        int[] begins = begins(0, offset);
        for (int i = 0; i < places.length; i++) {
            long center = begins[i] + width(i) / 2;
            int end = begins[places.length - 1] + width(places.length - 1);
            if (mode == 1 && end > length && offset < length) center = offset + (center - offset) * (length - offset) / (end - offset);
            if (mode == 2 && isClosed(contours().get(contour)) && length != 0) center = ((center % length) + length) % length;
            if (!segments().get(contour).isEmpty() && center >= 0 && center <= length) places[i] = new Place(contour, (int) center);
        }
        return places;
    }

    public int letter(int contour, int index, int what) {
        if (noContour(contour) || index < 0 || index >= letters.size()) return NO_SUCH;
        if (outside(0, 4, what)) return BAD_VALUE;
        Place place = places(contour)[index];
        if (place == null) return NONE;
        return what == 0 ? place.contour : what == 1 ? place.center : at(place.contour, place.center, what - 2);
    }

    public int placed(int contour, int what) {
        if (noContour(contour)) return NO_SUCH;
        if (outside(0, 1, what)) return BAD_VALUE;
        int number = 0;
        Map<Integer, Segment> latest = new HashMap<>();
        for (Place place : places(contour)) {
            if (place == null) continue;
            Segment s = segmentAt(place.contour, place.center);
            Segment before = latest.put(place.contour, s);
            boolean back = before != null && (long) s.dx() * before.dx() + (long) s.dy() * before.dy() < 0;
            if (what == 0 || back) number++;
        }
        return number;
    }

    // ---- saving

    public int count(int what) {
        if (outside(0, 6, what)) return BAD_VALUE;
        return new int[] {path.size(), contours().size(), tolerance, pad.length(), letters.size(), pattern.size(), kerning.size()}[what];
    }

    public int save(int slot) {
        if (outside(0, 1, slot)) return BAD_VALUE;
        slots[slot] = new Saved(new ArrayList<>(path), tolerance);
        return path.size();
    }

    public int restore(int slot) {
        if (outside(0, 1, slot)) return BAD_VALUE;
        if (slots[slot] == null) return NOT_POSSIBLE;
        path = new ArrayList<>(slots[slot].path);
        tolerance = slots[slot].tolerance;
        return path.size();
    }
}
