import java.util.ArrayDeque;
import java.util.ArrayList;
import java.util.Arrays;
import java.util.HashSet;
import java.util.List;
import java.util.Set;
import java.util.TreeMap;
import java.util.regex.Matcher;
import java.util.regex.Pattern;

/**
 * The document once more, in the plainest way: every answer is worked out anew, folds are rotations
 * of points of the flat part, orders are all written out. RandomTest holds SheetFolds against it.
 */
final class PlainFolds {
    static final int NONE = -1;
    static final int NOTHING = -1000000;
    static final Set<String> OWN = Set.of("sheet", "thick", "base", "press", "tool", "allow", "flange", "on",
            "north", "east", "south", "west", "from", "wide", "high", "up", "down", "round");
    static final List<String> SIDES = List.of("north", "east", "south", "west");

    record Flange(String name, int parent, int side, int from, int width, int height, boolean up, int radius) {
        Flange turnedOver() {
            return new Flange(name, parent, side, from, width, height, !up, radius);
        }
    }

    record Box(int[] low, int[] high) {
    }

    /** What acts change, and so what undo gives back. */
    static final class Sheet implements Cloneable {
        int thick;
        int press = 30;
        int made;
        int statements;
        List<Integer> tools = new ArrayList<>();
        TreeMap<Integer, Integer> told = new TreeMap<>();
        List<Flange> flanges = new ArrayList<>();

        Sheet copy() {
            Sheet s = new Sheet();
            s.thick = thick;
            s.press = press;
            s.made = made;
            s.statements = statements;
            s.tools = new ArrayList<>(tools);
            s.told = new TreeMap<>(told);
            s.flanges = new ArrayList<>(flanges);
            return s;
        }
    }

    static final class Fault extends RuntimeException {
        final int kind;
        final int place;

        Fault(int kind, int place) {
            this.kind = kind;
            this.place = place;
        }
    }

    private StringBuilder tape = new StringBuilder();
    private Sheet sheet;
    private ArrayDeque<Sheet> past = new ArrayDeque<>();
    private List<int[]> seen = new ArrayList<>();
    private int seed = 1;
    private int fault;
    private int place = NONE;
    private final int[] refused = new int[6];

    // ---- the text

    int feed(int a, int b, int c, int d, int e) {
        if (tape.length() + 20 > 1200) {
            return refuse(0);
        }
        for (int v : new int[] {a, b, c, d, e}) {
            tape.append((char) (v >>> 24)).append((char) (v >>> 16 & 255));
            tape.append((char) (v >>> 8 & 255)).append((char) (v & 255));
        }
        return tape.length();
    }

    boolean end(int n) {
        if (n < 0 || n > tape.length()) {
            return refuse(0) == 0;
        }
        tape.setLength(n);
        return true;
    }

    private int refuse(int kind) {
        refused[kind]++;
        return NONE;
    }

    int part() {
        String text = tape.toString();
        tape = new StringBuilder();
        try {
            Sheet read = new Text(text).read();
            fault = 0;
            place = NONE;
            sheet = read;
            past.clear();
            seen.clear();
            return sheet.statements;
        } catch (Fault f) {
            fault = f.kind;
            place = f.place;
            return refuse(1);
        }
    }

    /** Tokens come first, whole; then they are taken one by one. */
    static final class Text {
        final String text;
        final List<int[]> tokens = new ArrayList<>();
        int next;
        Sheet s = new Sheet();

        Text(String text) {
            this.text = text;
            Matcher m = Pattern.compile("[a-z]+|[0-9]+|[^ \n]", Pattern.DOTALL).matcher(text);
            while (m.find()) {
                tokens.add(new int[] {m.start(), m.end()});
            }
        }

        int start() {
            return next < tokens.size() ? tokens.get(next)[0] : text.length();
        }

        String peek() {
            return next < tokens.size() ? text.substring(tokens.get(next)[0], tokens.get(next)[1]) : "";
        }

        boolean glued() {
            return next > 0 && next < tokens.size() && tokens.get(next)[0] == tokens.get(next - 1)[1]
                    && text.substring(tokens.get(next - 1)[0], tokens.get(next)[1]).matches("[a-z0-9]+");
        }

        String word() {
            if (glued() || !peek().matches("[a-z]+")) {
                throw new Fault(1, start());
            }
            return peek();
        }

        int pick(List<String> words) {
            String w = word();
            if (!words.contains(w)) {
                throw new Fault(1, start());
            }
            next++;
            return words.indexOf(w);
        }

        int number(int least, int most) {
            if (glued() || !peek().matches("[0-9]+")) {
                throw new Fault(1, start());
            }
            if (peek().length() > 2) {
                throw new Fault(1, start() + 2);
            }
            int v = Integer.parseInt(peek());
            if (v < least || v > most) {
                throw new Fault(2, start());
            }
            next++;
            return v;
        }

        void name(boolean known) {
            String w = word();
            if (OWN.contains(w)) {
                throw new Fault(1, start());
            }
            if (w.length() > 4) {
                throw new Fault(1, start() + 4);
            }
            if (s.flanges.stream().anyMatch(f -> f.name.equals(w)) != known) {
                throw new Fault(3, start());
            }
            next++;
        }

        void semicolon() {
            if (!peek().equals(";")) {
                throw new Fault(1, start());
            }
            next++;
            s.statements++;
        }

        Sheet read() {
            pick(List.of("sheet"));
            pick(List.of("thick"));
            s.thick = number(1, 9);
            pick(List.of("base"));
            int w = number(1, 60);
            int h = number(1, 60);
            semicolon();
            s.flanges.add(new Flange("", NONE, 0, 0, w, h, true, 0));
            while (next < tokens.size()) {
                int at = start();
                int which = pick(List.of("press", "tool", "allow", "flange"));
                if (which == 0) {
                    s.press = number(1, 99);
                } else if (which == 1) {
                    if (s.tools.size() == 8) {
                        throw new Fault(5, at);
                    }
                    s.tools.add(number(1, 60));
                } else if (which == 2) {
                    int r = number(1, 9);
                    s.told.put(r, number(0, 60));
                } else {
                    if (s.flanges.size() == 9) {
                        throw new Fault(5, at);
                    }
                    flange();
                }
                semicolon();
            }
            return s;
        }

        void flange() {
            String name = peek();
            name(false);
            pick(List.of("on"));
            String where = peek();
            int parent = 0;
            if (where.equals("base")) {
                pick(List.of("base"));
            } else {
                name(true);
                while (!s.flanges.get(parent).name.equals(where)) {
                    parent++;
                }
            }
            int sideAt = start();
            int side = pick(SIDES);
            Flange p = s.flanges.get(parent);
            if (parent > 0 && Math.abs(p.side - side) == 2) {
                throw new Fault(4, sideAt);
            }
            pick(List.of("from"));
            int from = number(0, 59);
            pick(List.of("wide"));
            int wideAt = start();
            int wide = number(1, 60);
            boolean across = side % 2 == p.side % 2;
            boolean[] taken = new boolean[60];
            for (Flange f : s.flanges) {
                if (f.parent == parent && f.side == side) {
                    Arrays.fill(taken, f.from, f.from + f.width, true);
                }
            }
            for (int i = from; i < from + wide; i++) {
                if (i >= (across ? p.width : p.height) || taken[i]) {
                    throw new Fault(4, wideAt);
                }
            }
            pick(List.of("high"));
            int high = number(1, 60);
            boolean up = pick(List.of("down", "up")) == 1;
            pick(List.of("round"));
            s.flanges.add(new Flange(name, parent, side, from, wide, high, up, number(1, 9)));
        }
    }

    int fault(int what) {
        return what == 0 ? fault : what == 1 ? place : NONE;
    }

    int has(int what) {
        if (what == 7) {
            return seed;
        }
        if (what < 0 || what > 7) {
            return NONE;
        }
        if (sheet == null) {
            return 0;
        }
        return new int[] {count(), sheet.tools.size(), sheet.thick, sheet.press, sheet.made, seen.size(),
            past.size()}[what];
    }

    private int count() {
        return sheet == null ? 0 : sheet.flanges.size();
    }

    private boolean isFlange(int f) {
        return f >= 0 && f < count();
    }

    private boolean isBend(int b) {
        return b > 0 && b < count();
    }

    private boolean isState(int s) {
        return sheet != null && s >= 0 && s < 1 << (count() - 1);
    }

    private int full() {
        return (1 << (count() - 1)) - 1;
    }

    private static boolean in(int b, int s) {
        return (s >> (b - 1) & 1) == 1;
    }

    int letter(int f, int k) {
        if (!isFlange(f) || k < 0 || k > 3) {
            return NONE;
        }
        String n = sheet.flanges.get(f).name;
        return k < n.length() ? n.charAt(k) - 96 : 0;
    }

    private List<Integer> chain(int f) {
        List<Integer> up = new ArrayList<>();
        for (int g = f; g > 0; g = sheet.flanges.get(g).parent) {
            up.add(g);
        }
        return up;
    }

    private int lengthOf(int f) {
        return chain(f).stream().mapToInt(g -> sheet.flanges.get(g).height + zone(g)).sum();
    }

    int flange(int f, int what) {
        if (!isBend(f) || what < 0 || what > 9) {
            return NONE;
        }
        Flange x = sheet.flanges.get(f);
        int hang = 0;
        for (int g = 1; g < count(); g++) {
            hang += g != f && chain(g).contains(f) ? 1 : 0;
        }
        return new int[] {x.parent, x.side, x.from, x.width, x.height, x.up ? 1 : 0, x.radius, hang,
            chain(f).size() - 1, lengthOf(f)}[what];
    }

    int tool(int t) {
        return sheet != null && t >= 0 && t < sheet.tools.size() ? sheet.tools.get(t) : NONE;
    }

    int allowance(int r) {
        if (sheet == null || r < 1 || r > 9) {
            return NONE;
        }
        return sheet.told.containsKey(r) ? sheet.told.get(r) : 11 * (2 * r + sheet.thick) / 14;
    }

    private int zone(int f) {
        return allowance(sheet.flanges.get(f).radius);
    }

    // ---- laid flat: x0, y0, x1, y1

    private int[] flatOf(int piece) {
        if (piece == 0) {
            return new int[] {0, 0, sheet.flanges.get(0).width, sheet.flanges.get(0).height};
        }
        int f = piece > 8 ? piece - 8 : piece;
        Flange x = sheet.flanges.get(f);
        int near = piece > 8 ? 0 : zone(f);
        int far = piece > 8 ? zone(f) : zone(f) + x.height;
        int[] p = flatOf(x.parent);
        switch (x.side) {
            case 0:
                return new int[] {p[0] + x.from, p[3] + near, p[0] + x.from + x.width, p[3] + far};
            case 1:
                return new int[] {p[2] + near, p[1] + x.from, p[2] + far, p[1] + x.from + x.width};
            case 2:
                return new int[] {p[0] + x.from, p[1] - far, p[0] + x.from + x.width, p[1] - near};
            default:
                return new int[] {p[0] - far, p[1] + x.from, p[0] - near, p[1] + x.from + x.width};
        }
    }

    private List<Integer> pieces() {
        List<Integer> all = new ArrayList<>();
        for (int i = 0; i <= 16; i++) {
            if (i < 9 ? isFlange(i) : isBend(i - 8)) {
                all.add(i);
            }
        }
        return all;
    }

    int flat(int piece, int what) {
        return pieces().contains(piece) && what >= 0 && what < 4 ? flatOf(piece)[what] : NOTHING;
    }

    int flatBox(int what) {
        if (sheet == null || what < 0 || what > 4) {
            return NOTHING;
        }
        int[] box = {0, 0, 0, 0, 0};
        for (int i : pieces()) {
            int[] p = flatOf(i);
            for (int k = 0; k < 4; k++) {
                box[k] = k < 2 ? Math.min(box[k], p[k]) : Math.max(box[k], p[k]);
            }
            box[4] += (p[2] - p[0]) * (p[3] - p[1]);
        }
        return box[what];
    }

    private static int shared(int a0, int a1, int b0, int b1) {
        return Math.min(a1, b1) - Math.max(a0, b0);
    }

    int overlap(int k, int what) {
        if (sheet == null) {
            return NONE;
        }
        List<int[]> pairs = new ArrayList<>();
        for (int i : pieces()) {
            for (int j : pieces()) {
                int[] a = flatOf(i);
                int[] b = flatOf(j);
                if (i < j && shared(a[0], a[2], b[0], b[2]) > 0 && shared(a[1], a[3], b[1], b[3]) > 0) {
                    pairs.add(new int[] {i, j});
                }
            }
        }
        if (k == NONE) {
            return pairs.size();
        }
        return k >= 0 && k < pairs.size() && what >= 0 && what < 2 ? pairs.get(k)[what] : NONE;
    }

    // ---- in space: points of the flat part, folded at each made bend from the outermost inward

    private int[] fold(int[] flatPoint, int flange, int state) {
        int[] p = flatPoint.clone();
        for (int g : chain(flange)) {
            if (in(g, state)) {
                Flange x = sheet.flanges.get(g);
                int[] parent = flatOf(x.parent);
                int axis = x.side % 2 == 0 ? 1 : 0;
                int sign = x.side < 2 ? 1 : -1;
                int line = x.side < 2 ? parent[2 + axis] : parent[axis];
                int t = sign * (p[axis] - line) - zone(g);
                int w = p[2];
                p[axis] = line + sign * (x.up ? -w : w);
                p[2] = x.up ? t : -t;
            }
        }
        return p;
    }

    /** As fold, but a direction. */
    private int[] foldNormal(int flange, int state) {
        int[] a = fold(new int[] {0, 0, 0}, flange, state);
        int[] b = fold(new int[] {0, 0, 1}, flange, state);
        return new int[] {b[0] - a[0], b[1] - a[1], b[2] - a[2]};
    }

    private Box span(int[] a, int[] b) {
        int[] low = new int[3];
        int[] high = new int[3];
        for (int i = 0; i < 3; i++) {
            low[i] = Math.min(a[i], b[i]);
            high[i] = Math.max(a[i], b[i]);
        }
        return new Box(low, high);
    }

    private Box boxOf(int f, int state) {
        int[] r = flatOf(f);
        return span(fold(new int[] {r[0], r[1], 0}, f, state), fold(new int[] {r[2], r[3], 0}, f, state));
    }

    private Box punchOf(int bend, int state) {
        Flange x = sheet.flanges.get(bend);
        int[] z = flatOf(bend + 8);
        int[] p = flatOf(x.parent);
        int h = x.up ? sheet.press : -sheet.press;
        int[] a = {z[0], z[1], 0};
        int[] b = {z[2], z[3], h};
        int axis = x.side % 2 == 0 ? 1 : 0;
        a[axis] = x.side < 2 ? p[2 + axis] : p[axis];
        b[axis] = a[axis];
        return span(fold(a, x.parent, state), fold(b, x.parent, state));
    }

    private static int thin(Box b) {
        for (int i = 0; i < 3; i++) {
            if (b.low[i] == b.high[i]) {
                return i;
            }
        }
        throw new IllegalStateException();
    }

    private static boolean clash(Box a, Box b) {
        int i = thin(a);
        int j = thin(b);
        int sharing = 0;
        for (int k = 0; k < 3; k++) {
            sharing += k != i && k != j && shared(a.low[k], a.high[k], b.low[k], b.high[k]) > 0 ? 1 : 0;
        }
        if (i == j) {
            return a.low[i] == b.low[i] && sharing == 2;
        }
        return b.low[i] < a.low[i] && a.low[i] < b.high[i] && a.low[j] < b.low[j] && b.low[j] < a.high[j]
                && sharing == 1;
    }

    private int[] total(int state) {
        int[] sum = new int[3];
        for (int k = 0; k < 3; k++) {
            int low = 0;
            int high = 0;
            for (int f = 0; f < count(); f++) {
                low = Math.min(low, boxOf(f, state).low[k]);
                high = Math.max(high, boxOf(f, state).high[k]);
            }
            sum[k] = high - low;
        }
        return sum;
    }

    int space(int f, int what) {
        if (!isFlange(f) || what < 0 || what > 5) {
            return NOTHING;
        }
        Box b = boxOf(f, sheet.made);
        return what < 3 ? b.low[what] : b.high[what - 3];
    }

    int spaceBox(int what) {
        return sheet == null || what < 0 || what > 2 ? NOTHING : total(sheet.made)[what];
    }

    int gap(int one, int other) {
        if (!isFlange(one) || !isFlange(other)) {
            return NONE;
        }
        Box a = boxOf(one, sheet.made);
        Box b = boxOf(other, sheet.made);
        int sum = 0;
        for (int k = 0; k < 3; k++) {
            sum += Math.max(0, -shared(a.low[k], a.high[k], b.low[k], b.high[k]));
        }
        return sum;
    }

    int normal(int f) {
        if (!isFlange(f)) {
            return 0;
        }
        int[] n = foldNormal(f, sheet.made);
        return n[0] + 2 * n[1] + 3 * n[2];
    }

    private List<Integer> clashList(int state) {
        List<Integer> pairs = new ArrayList<>();
        for (int i = 0; i < count(); i++) {
            for (int j = i + 1; j < count(); j++) {
                if (clash(boxOf(i, state), boxOf(j, state))) {
                    pairs.add(10 * i + j);
                }
            }
        }
        return pairs;
    }

    int clash(int state, int k) {
        if (!isState(state)) {
            return NONE;
        }
        List<Integer> pairs = clashList(state);
        return k == NONE ? pairs.size() : k >= 0 && k < pairs.size() ? pairs.get(k) : NONE;
    }

    int meets(int bend, int state) {
        if (!isBend(bend) || !isState(state) || in(bend, state)) {
            return NONE;
        }
        int bits = 0;
        for (int f = 0; f < count(); f++) {
            bits |= clash(punchOf(bend, state), boxOf(f, state)) ? 1 << f : 0;
        }
        return bits;
    }

    // ---- tools, reasons

    private int toolSet(int bend) {
        int best = 0;
        for (int set = 0; set < 1 << sheet.tools.size(); set++) {
            int sum = 0;
            for (int t = 0; t < sheet.tools.size(); t++) {
                sum += (set >> t & 1) * sheet.tools.get(t);
            }
            if (sum == sheet.flanges.get(bend).width
                    && (best == 0 || Integer.bitCount(set) < Integer.bitCount(best))) {
                best = set;
            }
        }
        return best;
    }

    int tools(int bend, int what) {
        if (!isBend(bend) || toolSet(bend) == 0 || what < 0 || what > 1) {
            return NONE;
        }
        return what == 0 ? toolSet(bend) : Integer.bitCount(toolSet(bend));
    }

    int why(int bend, int state) {
        if (!isBend(bend) || !isState(state)) {
            return NONE;
        }
        if (in(bend, state)) {
            return 1;
        }
        if (toolSet(bend) == 0) {
            return 2;
        }
        if (meets(bend, state) != 0) {
            return 3;
        }
        return clashList(state | 1 << (bend - 1)).isEmpty() ? 0 : 4;
    }

    // ---- orders: every one of them written out

    private int[][] reasons;

    private void lookUpReasons() {
        reasons = new int[full() + 1][count()];
        for (int s = 0; s <= full(); s++) {
            for (int b = 1; b < count(); b++) {
                reasons[s][b] = (s & sheet.made) == sheet.made ? why(b, s) : 9;
            }
        }
    }

    private void extend(List<Integer> row, int state, List<List<Integer>> all, int most) {
        if (all.size() >= most) {
            return;
        }
        if (state == full()) {
            all.add(new ArrayList<>(row));
            return;
        }
        for (int b = 1; b < count(); b++) {
            if (reasons[state][b] == 0) {
                row.add(b);
                extend(row, state | 1 << (b - 1), all, most);
                row.remove(row.size() - 1);
            }
        }
    }

    private List<List<Integer>> allOrders(int most) {
        List<List<Integer>> all = new ArrayList<>();
        if (sheet != null) {
            lookUpReasons();
            extend(new ArrayList<>(), sheet.made, all, most);
        }
        return all;
    }

    private List<List<Integer>> allOrders() {
        return allOrders(Integer.MAX_VALUE);
    }

    int orders() {
        return sheet == null ? NONE : allOrders().size();
    }

    private static int at(List<Integer> row, int k) {
        return k >= 0 && k < row.size() ? row.get(k) : NONE;
    }

    int order(int k) {
        List<List<Integer>> first = allOrders(1);
        return first.isEmpty() ? NONE : at(first.get(0), k);
    }

    private boolean unmade(int b) {
        return isBend(b) && !in(b, sheet.made);
    }

    int mayBeLast(int b) {
        return !unmade(b) ? NONE : allOrders().stream().anyMatch(o -> o.get(o.size() - 1) == b) ? 1 : 0;
    }

    int ahead(int b, int o) {
        if (!unmade(b) || !unmade(o) || b == o) {
            return NONE;
        }
        List<List<Integer>> all = allOrders();
        return all.isEmpty() ? NONE : all.stream().allMatch(r -> r.indexOf(b) < r.indexOf(o)) ? 1 : 0;
    }

    private Set<Integer> reachedStates() {
        lookUpReasons();
        Set<Integer> found = new HashSet<>();
        ArrayDeque<Integer> todo = new ArrayDeque<>(List.of(sheet.made));
        while (!todo.isEmpty()) {
            int s = todo.pop();
            if (found.add(s)) {
                for (int b = 1; b < count(); b++) {
                    if (reasons[s][b] == 0) {
                        todo.push(s | 1 << (b - 1));
                    }
                }
            }
        }
        return found;
    }

    int reached(int what) {
        if (sheet == null || what < 0 || what > 3) {
            return NONE;
        }
        Set<Integer> all = reachedStates();
        int blocked = full() & ~sheet.made;
        int deadEnds = 0;
        int fullest = NONE;
        for (int s = 0; s <= full(); s++) {
            if (all.contains(s)) {
                boolean any = false;
                for (int b = 1; b < count(); b++) {
                    if (reasons[s][b] == 0) {
                        any = true;
                        blocked &= ~(1 << (b - 1));
                    }
                }
                if (!any && s != full()) {
                    deadEnds++;
                    if (fullest == NONE || Integer.bitCount(s) > Integer.bitCount(fullest)) {
                        fullest = s;
                    }
                }
            }
        }
        return new int[] {all.size(), deadEnds, fullest, blocked}[what];
    }

    private int switches(List<Integer> row, int what) {
        int n = 0;
        for (int i = 1; i < row.size(); i++) {
            int a = row.get(i - 1);
            int b = row.get(i);
            boolean same = what == 0 ? sheet.flanges.get(a).up == sheet.flanges.get(b).up : toolSet(a) == toolSet(b);
            n += same ? 0 : 1;
        }
        return n;
    }

    private List<Integer> thriftyRow(int what) {
        List<Integer> best = null;
        int least = 0;
        for (List<Integer> row : allOrders()) {
            int n = switches(row, what);
            if (best == null || n < least) {
                best = row;
                least = n;
            }
        }
        return best;
    }

    int fewest(int what) {
        if (what < 0 || what > 1 || thriftyRow(what) == null) {
            return NONE;
        }
        return switches(thriftyRow(what), what);
    }

    int thrifty(int what, int k) {
        if (what < 0 || what > 1 || thriftyRow(what) == null) {
            return NONE;
        }
        return at(thriftyRow(what), k);
    }

    int tallest() {
        if (sheet == null) {
            return NONE;
        }
        int now = sheet.press;
        int found = NONE;
        for (int h = 99; h >= 1 && found == NONE; h--) {
            sheet.press = h;
            found = allOrders(1).isEmpty() ? NONE : h;
        }
        sheet.press = now;
        return found;
    }

    private void flip(int bits) {
        for (int b = 1; b < count(); b++) {
            if (in(b, bits)) {
                sheet.flanges.set(b, sheet.flanges.get(b).turnedOver());
            }
        }
    }

    int turned(int b) {
        if (!unmade(b)) {
            return NONE;
        }
        flip(1 << (b - 1));
        int n = orders();
        flip(1 << (b - 1));
        return n;
    }

    int mends() {
        int best = NONE;
        for (int bits = 0; sheet != null && bits <= full(); bits++) {
            if ((bits & sheet.made) == 0 && (best == NONE || Integer.bitCount(bits) < Integer.bitCount(best))) {
                flip(bits);
                best = allOrders(1).isEmpty() ? best : bits;
                flip(bits);
            }
        }
        return best;
    }

    int lacks(int what) {
        int n = 0;
        int least = NONE;
        for (int b = 1; b < count(); b++) {
            if (toolSet(b) == 0) {
                n++;
                int w = sheet.flanges.get(b).width;
                least = least == NONE ? w : Math.min(least, w);
            }
        }
        return sheet == null ? NONE : what == 0 ? least : what == 1 ? n : NONE;
    }

    private boolean canOpen(int b) {
        return isBend(b) && in(b, sheet.made) && clashList(sheet.made & ~(1 << (b - 1))).isEmpty();
    }

    int opens() {
        int bits = 0;
        for (int b = 1; b < count(); b++) {
            bits |= canOpen(b) ? 1 << (b - 1) : 0;
        }
        return sheet == null ? NONE : bits;
    }

    int smallest(int what) {
        if (sheet == null || what < 0 || what > 1) {
            return NONE;
        }
        Set<Integer> all = reachedStates();
        int best = NONE;
        for (int s = 0; s <= full(); s++) {
            if (all.contains(s) && (best == NONE
                    || Arrays.stream(total(s)).sum() < Arrays.stream(total(best)).sum())) {
                best = s;
            }
        }
        return what == 0 ? best : Arrays.stream(total(best)).sum();
    }

    int between(int one, int other) {
        if (!isFlange(one) || !isFlange(other)) {
            return NONE;
        }
        Set<Integer> a = new HashSet<>(chain(one));
        Set<Integer> b = new HashSet<>(chain(other));
        Set<Integer> both = new HashSet<>(a);
        both.retainAll(b);
        return a.size() + b.size() - 2 * both.size();
    }

    // ---- what was measured

    int see() {
        String t = tape.toString();
        tape = new StringBuilder();
        List<int[]> rows = new ArrayList<>();
        for (int i = 0; i + 2 < t.length(); i += 3) {
            rows.add(new int[] {t.charAt(i), t.charAt(i + 1) * 256 + t.charAt(i + 2)});
        }
        if (t.length() % 3 != 0 || rows.isEmpty() || rows.size() > 8
                || !rows.stream().allMatch(r -> isBend(r[0]))) {
            return refuse(5);
        }
        seen = rows;
        return rows.size();
    }

    private List<Integer> fitList(int radius) {
        List<Integer> fits = new ArrayList<>();
        Integer now = sheet.told.get(radius);
        for (int v = 0; v <= 60; v++) {
            sheet.told.put(radius, v);
            if (seen.stream().allMatch(r -> lengthOf(r[0]) == r[1])) {
                fits.add(v);
            }
        }
        putBack(radius, now);
        return fits;
    }

    private void putBack(int radius, Integer now) {
        sheet.told.remove(radius);
        if (now != null) {
            sheet.told.put(radius, now);
        }
    }

    int fits(int radius, int k) {
        if (seen.isEmpty() || radius < 1 || radius > 9) {
            return NONE;
        }
        return k == NONE ? fitList(radius).size() : at(fitList(radius), k);
    }

    int tells(int radius, int what) {
        if (seen.isEmpty() || radius < 1 || radius > 9 || what < 0 || what > 1 || fitList(radius).isEmpty()) {
            return NONE;
        }
        int teller = NONE;
        int left = 0;
        List<Integer> fits = fitList(radius);
        Integer now = sheet.told.get(radius);
        for (int f = 1; f < count(); f++) {
            TreeMap<Integer, Integer> byLength = new TreeMap<>();
            for (int v : fits) {
                sheet.told.put(radius, v);
                byLength.merge(lengthOf(f), 1, Integer::sum);
            }
            int most = byLength.values().stream().mapToInt(i -> i).max().getAsInt();
            if (teller == NONE || most < left) {
                teller = f;
                left = most;
            }
        }
        putBack(radius, now);
        return what == 0 ? teller : left;
    }

    // ---- acts

    private void act() {
        past.push(sheet.copy());
        if (past.size() > 20) {
            past.removeLast();
        }
    }

    int bend(int b) {
        int r = isBend(b) ? why(b, sheet.made) : NONE;
        if (r != 0) {
            refuse(2);
            return r;
        }
        act();
        sheet.made |= 1 << (b - 1);
        return 0;
    }

    private boolean no(int kind) {
        refused[kind]++;
        return false;
    }

    boolean open(int b) {
        if (!canOpen(b)) {
            return no(2);
        }
        act();
        sheet.made &= ~(1 << (b - 1));
        return true;
    }

    boolean turn(int b) {
        if (!unmade(b)) {
            return no(2);
        }
        act();
        flip(1 << (b - 1));
        return true;
    }

    boolean lay(int state) {
        if (!isState(state) || state == sheet.made || !clashList(state).isEmpty()) {
            return no(2);
        }
        act();
        sheet.made = state;
        return true;
    }

    int follow(int n) {
        List<List<Integer>> first = allOrders(1);
        if (first.isEmpty() || n < 1 || n > first.get(0).size()) {
            return refuse(3);
        }
        act();
        for (int b : first.get(0).subList(0, n)) {
            sheet.made |= 1 << (b - 1);
        }
        return sheet.made;
    }

    boolean allow(int radius, int v) {
        if (sheet == null || radius < 1 || radius > 9 || v < 0 || v > 60 || allowance(radius) == v) {
            return no(3);
        }
        act();
        sheet.told.put(radius, v);
        return true;
    }

    boolean press(int h) {
        if (sheet == null || h < 1 || h > 99 || h == sheet.press) {
            return no(3);
        }
        act();
        sheet.press = h;
        return true;
    }

    int chance(int n) {
        if (n < 1 || n > 40 || count() < 2) {
            return refuse(3);
        }
        act();
        for (int i = 0; i < n; i++) {
            seed = (int) ((1103515245L * seed + 12345) % (1L << 31));
            int b = seed / 64 % (count() - 1) + 1;
            if (canOpen(b)) {
                sheet.made &= ~(1 << (b - 1));
            } else if (why(b, sheet.made) == 0) {
                sheet.made |= 1 << (b - 1);
            }
        }
        return sheet.made;
    }

    boolean undo() {
        if (past.isEmpty()) {
            return no(4);
        }
        sheet = past.pop();
        return true;
    }

    boolean seed(int s) {
        if (s < 0) {
            return no(5);
        }
        seed = s;
        return true;
    }

    int status(int what) {
        return what >= 0 && what < 6 ? refused[what] : NONE;
    }
}
