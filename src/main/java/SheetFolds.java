import java.util.Arrays;

/**
 * A folder of bent sheet: a part is told as a text on a tape, laid flat, folded in space, and asked
 * for the orders in which its bends can be made. README.md shows how it is used.
 */
public final class SheetFolds {
    /** There is none; it is refused. */
    public static final int NONE = -1;
    /** There is no such number. */
    public static final int NOTHING = -1000000;

    private static final int TAPE_BYTES = 1200;
    private static final int FLANGES = 9;
    private static final int BENDS = 8;
    private static final int TOOLS = 8;
    private static final int STATES = 256;
    private static final int RADII = 9;
    private static final int MOST_ALLOWANCE = 60;
    private static final int TALLEST_PUNCH = 99;
    private static final int MOST_DRAWS = 40;
    private static final int KINDS_REFUSED = 6;

    private static final int NORTH = 0;
    private static final int EAST = 1;
    private static final int SOUTH = 2;
    private static final int WEST = 3;

    private final Tape tape;
    private final Reader reader;
    private final Pose pose;
    private final Orders search;
    private final Mender mender;
    private final History history;
    private final Measured measured;
    private final int[] refusals;
    private Part part;
    private Part draft;
    private int made;
    private int draws;
    /** Whether the rooms of the search are those of the part as it is now. */
    private boolean roomsKnown;
    /** Whether the search began at the bends that are made now. */
    private boolean searched;

    public SheetFolds() {
        tape = new Tape();
        reader = new Reader(tape);
        pose = new Pose();
        search = new Orders();
        mender = new Mender();
        history = new History();
        measured = new Measured();
        refusals = new int[KINDS_REFUSED];
        part = new Part();
        draft = new Part();
        draws = 1;
    }

    // ---- the text

    public int feed(int a, int b, int c, int d, int e) {
        if (!tape.hasRoom()) {
            return refuse(0);
        }
        tape.put(a);
        tape.put(b);
        tape.put(c);
        tape.put(d);
        tape.put(e);
        return tape.length;
    }

    public boolean end(int n) {
        if (n < 0 || n > tape.length) {
            return deny(0);
        }
        tape.length = n;
        return true;
    }

    public int part() {
        reader.read(draft);
        tape.length = 0;
        if (reader.fault != 0) {
            return refuse(1);
        }
        Part old = part;
        part = draft;
        draft = old;
        part.chooseTools();
        made = 0;
        measured.rows = 0;
        history.size = 0;
        partChanged();
        return part.statements;
    }

    public int fault(int what) {
        if (what == 0) {
            return reader.fault;
        }
        return what == 1 ? reader.place : NONE;
    }

    public int has(int what) {
        switch (what) {
            case 0:
                return part.count;
            case 1:
                return part.toolCount;
            case 2:
                return part.thick;
            case 3:
                return part.punch;
            case 4:
                return made;
            case 5:
                return measured.rows;
            case 6:
                return history.size;
            case 7:
                return draws;
            default:
                return NONE;
        }
    }

    public int letter(int flange, int k) {
        if (!part.isFlange(flange) || k < 0 || k >= Reader.NAME_LETTERS) {
            return NONE;
        }
        return part.name[flange] >> Reader.LETTER_BITS * (Reader.NAME_LETTERS - 1 - k) & Reader.LETTER_MASK;
    }

    public int flange(int flange, int what) {
        if (!part.isBend(flange)) {
            return NONE;
        }
        switch (what) {
            case 0:
                return part.parent[flange];
            case 1:
                return part.side[flange];
            case 2:
                return part.from[flange];
            case 3:
                return part.width[flange];
            case 4:
                return part.height[flange];
            case 5:
                return isIn(flange, part.ups) ? 1 : 0;
            case 6:
                return part.radius[flange];
            case 7:
                return part.countHangers(flange);
            case 8:
                return part.depth(flange) - 1;
            case 9:
                return part.lengthOf(flange);
            default:
                return NONE;
        }
    }

    public int tool(int tool) {
        return tool < 0 || tool >= part.toolCount ? NONE : part.toolWidth[tool];
    }

    public int allowance(int radius) {
        return part.isThere() && isRadius(radius) ? part.allowanceOf(radius) : NONE;
    }

    // ---- laid flat

    public int flat(int piece, int what) {
        if (!part.isPiece(piece) || what < 0 || what > 3) {
            return NOTHING;
        }
        pose.placeFlat(part);
        return what < 2 ? pose.lowOf(piece, what) : pose.highOf(piece, what - 2);
    }

    public int flatBox(int what) {
        if (!part.isThere() || what < 0 || what > 4) {
            return NOTHING;
        }
        pose.placeFlat(part);
        if (what == 4) {
            return pose.area(part);
        }
        // a zone lies between two flanges and is no wider than one of them, so these tell the box
        return what < 2 ? pose.leastLow(part.count, what) : pose.mostHigh(part.count, what - 2);
    }

    public int overlap(int k, int what) {
        if (!part.isThere()) {
            return NONE;
        }
        pose.placeFlat(part);
        if (k == NONE) {
            return pose.overlaps(part, NONE);
        }
        int pair = k < 0 ? NONE : pose.overlaps(part, k);
        if (pair == NONE || what < 0 || what > 1) {
            return NONE;
        }
        return what == 0 ? pair / Pose.SLOTS : pair % Pose.SLOTS;
    }

    // ---- in space

    public int space(int flange, int what) {
        if (!part.isFlange(flange) || what < 0 || what > 5) {
            return NOTHING;
        }
        placeNow();
        return what < 3 ? pose.lowOf(flange, what) : pose.highOf(flange, what - 3);
    }

    public int spaceBox(int what) {
        if (!part.isThere() || what < 0 || what > 2) {
            return NOTHING;
        }
        placeNow();
        return pose.extent(part.count, what);
    }

    public int gap(int one, int other) {
        if (!part.isFlange(one) || !part.isFlange(other)) {
            return NONE;
        }
        placeNow();
        return pose.gapOf(one, other);
    }

    public int normal(int flange) {
        if (!part.isFlange(flange)) {
            return 0;
        }
        placeNow();
        return pose.signedNormal(flange);
    }

    public int clash(int state, int k) {
        if (!part.isState(state) || k < NONE) {
            return NONE;
        }
        pose.place(part, state, part.ups);
        return pose.clashes(part.count, k);
    }

    public int meets(int bend, int state) {
        if (!part.isBend(bend) || !part.isState(state) || isIn(bend, state)) {
            return NONE;
        }
        pose.place(part, state, part.ups);
        return pose.metByPunch(part, bend);
    }

    // ---- tools, reasons

    public int tools(int bend, int what) {
        if (!part.isBend(bend) || part.toolSet[bend] == 0) {
            return NONE;
        }
        if (what == 0) {
            return part.toolSet[bend];
        }
        return what == 1 ? Integer.bitCount(part.toolSet[bend]) : NONE;
    }

    public int why(int bend, int state) {
        return part.isBend(bend) && part.isState(state) ? reason(bend, state) : NONE;
    }

    // ---- orders, from the state there is

    public int orders() {
        searchOrders();
        return part.isThere() ? search.ordersFrom(made) : NONE;
    }

    public int order(int k) {
        if (k < 0 || !searchOrders()) {
            return NONE;
        }
        search.walkFirst();
        return search.rowAt(k);
    }

    public int mayBeLast(int bend) {
        if (!isUnmade(bend)) {
            return NONE;
        }
        searchOrders();
        return search.canEndWith(bend) ? 1 : 0;
    }

    public int ahead(int bend, int other) {
        if (!isUnmade(bend) || !isUnmade(other) || bend == other || !searchOrders()) {
            return NONE;
        }
        return search.passesWithout(other, bend) ? 0 : 1;
    }

    public int reached(int what) {
        if (!part.isThere()) {
            return NONE;
        }
        searchOrders();
        switch (what) {
            case 0:
                return search.countReached();
            case 1:
                return search.countDeadEnds();
            case 2:
                return search.fullestDeadEnd();
            case 3:
                return search.blocked();
            default:
                return NONE;
        }
    }

    public int fewest(int what) {
        if (what < 0 || what > 1 || !searchOrders()) {
            return NONE;
        }
        search.countSwitches(part, what);
        return search.leastFrom(made, 0);
    }

    public int thrifty(int what, int k) {
        if (what < 0 || what > 1 || k < 0 || !searchOrders()) {
            return NONE;
        }
        search.countSwitches(part, what);
        search.walkThrifty();
        return search.rowAt(k);
    }

    public int tallest() {
        if (!part.isThere()) {
            return NONE;
        }
        searchOrders();
        int height = search.tallestPunch();
        return height < 1 ? NONE : height;
    }

    public int turned(int bend) {
        if (!isUnmade(bend)) {
            return NONE;
        }
        search.measureRooms(pose, part, part.ups ^ bit(bend));
        search.searchFrom(made, part.punch);
        partChanged();
        return search.ordersFrom(made);
    }

    public int mends() {
        if (!part.isThere()) {
            return NONE;
        }
        return searchOrders() ? 0 : mender.leastTurns(pose, part, made);
    }

    public int lacks(int what) {
        if (!part.isThere()) {
            return NONE;
        }
        if (what == 0) {
            return part.leastWidthWithoutTools();
        }
        return what == 1 ? part.countWithoutTools() : NONE;
    }

    public int opens() {
        if (!part.isThere()) {
            return NONE;
        }
        int found = 0;
        for (int b = 1; b < part.count; b++) {
            if (isIn(b, made) && !clashesIn(made ^ bit(b))) {
                found |= bit(b);
            }
        }
        return found;
    }

    public int smallest(int what) {
        if (!part.isThere() || what < 0 || what > 1) {
            return NONE;
        }
        searchOrders();
        int best = NONE;
        int shortest = 0;
        for (int s = made; s <= part.allBends(); s++) {
            if (search.isReached(s)) {
                pose.place(part, s, part.ups);
                int size = pose.size(part.count);
                if (best == NONE || size < shortest) {
                    best = s;
                    shortest = size;
                }
            }
        }
        return what == 0 ? best : shortest;
    }

    public int between(int one, int other) {
        return part.isFlange(one) && part.isFlange(other) ? part.bendsBetween(one, other) : NONE;
    }

    // ---- what was measured

    public int see() {
        boolean told = measured.take(tape, part);
        tape.length = 0;
        return told ? measured.rows : refuse(5);
    }

    public int fits(int radius, int k) {
        if (measured.rows == 0 || !isRadius(radius) || k < NONE) {
            return NONE;
        }
        return measured.fitAt(part, radius, k);
    }

    public int tells(int radius, int what) {
        if (measured.rows == 0 || !isRadius(radius) || what < 0 || what > 1) {
            return NONE;
        }
        int left = measured.fitAt(part, radius, NONE);
        if (left == 0) {
            return NONE;
        }
        int teller = measured.tellingFlange(part, radius, left);
        return what == 0 ? teller : measured.mostLeft(part, teller, radius, left);
    }

    // ---- acts

    public int bend(int bend) {
        if (!part.isBend(bend)) {
            return refuse(2);
        }
        int reason = reason(bend, made);
        if (reason != 0) {
            refuse(2);
            return reason;
        }
        remember();
        setMade(made | bit(bend));
        return 0;
    }

    public boolean open(int bend) {
        if (!part.isBend(bend) || !isIn(bend, made) || clashesIn(made ^ bit(bend))) {
            return deny(2);
        }
        remember();
        setMade(made ^ bit(bend));
        return true;
    }

    public boolean turn(int bend) {
        if (!isUnmade(bend)) {
            return deny(2);
        }
        remember();
        part.ups ^= bit(bend);
        partChanged();
        return true;
    }

    public boolean lay(int state) {
        if (!part.isState(state) || state == made || clashesIn(state)) {
            return deny(2);
        }
        remember();
        setMade(state);
        return true;
    }

    public int follow(int n) {
        if (n < 1 || !searchOrders() || n > part.count - 1 - Integer.bitCount(made)) {
            return refuse(3);
        }
        search.walkFirst();
        remember();
        setMade(made | search.firstOfRow(n));
        return made;
    }

    public boolean allow(int radius, int v) {
        boolean possible = part.isThere() && isRadius(radius) && v >= 0 && v <= MOST_ALLOWANCE;
        if (!possible || part.allowanceOf(radius) == v) {
            return deny(3);
        }
        remember();
        part.told[radius] = v;
        partChanged();
        return true;
    }

    public boolean press(int height) {
        if (!part.isThere() || height < 1 || height > TALLEST_PUNCH || height == part.punch) {
            return deny(3);
        }
        remember();
        part.punch = height;
        searched = false;
        return true;
    }

    public int chance(int n) {
        if (n < 1 || n > MOST_DRAWS || part.count < 2) {
            return refuse(3);
        }
        remember();
        for (int i = 0; i < n; i++) {
            tryOne(draw(part.count - 1) + 1);
        }
        return made;
    }

    public boolean undo() {
        if (history.size == 0) {
            return deny(4);
        }
        setMade(history.takeBack(part));
        partChanged();
        return true;
    }

    public boolean seed(int seed) {
        if (seed < 0) {
            return deny(5);
        }
        draws = seed;
        return true;
    }

    public int status(int what) {
        return what < 0 || what >= KINDS_REFUSED ? NONE : refusals[what];
    }

    // ---- what the calls share

    private static int bit(int bend) {
        return 1 << (bend - 1);
    }

    private static boolean isIn(int bend, int state) {
        return (state & bit(bend)) != 0;
    }

    private static boolean isRadius(int radius) {
        return radius >= 1 && radius <= RADII;
    }

    private boolean isUnmade(int bend) {
        return part.isBend(bend) && !isIn(bend, made);
    }

    private int refuse(int kind) {
        if (kind >= 0 && kind < KINDS_REFUSED) {
            refusals[kind]++;
        }
        return NONE;
    }

    private boolean deny(int kind) {
        refuse(kind);
        return false;
    }

    private void remember() {
        history.keep(part, made);
    }

    private void setMade(int state) {
        made = state;
        searched = false;
    }

    private void partChanged() {
        roomsKnown = false;
        searched = false;
    }

    private void placeNow() {
        pose.place(part, made, part.ups);
    }

    private boolean clashesIn(int state) {
        pose.place(part, state, part.ups);
        return pose.clashes(part.count, 0) != NONE;
    }

    private int reason(int bend, int state) {
        if (isIn(bend, state)) {
            return 1;
        }
        if (part.toolSet[bend] == 0) {
            return 2;
        }
        pose.place(part, state, part.ups);
        if (pose.metByPunch(part, bend) != 0) {
            return 3;
        }
        return clashesIn(state | bit(bend)) ? 4 : 0;
    }

    /** Brings the search up to date; answers whether there is an order. */
    private boolean searchOrders() {
        if (!part.isThere()) {
            return false;
        }
        if (!roomsKnown) {
            search.measureRooms(pose, part, part.ups);
            roomsKnown = true;
        }
        if (!searched) {
            search.searchFrom(made, part.punch);
            searched = true;
        }
        return search.ordersFrom(made) > 0;
    }

    private int draw(int m) {
        draws = (int) (1103515245L * draws + 12345L & 0x7fffffffL);
        return m < 1 ? 0 : draws / 64 % m;
    }

    private void tryOne(int bend) {
        if (isIn(bend, made)) {
            if (!clashesIn(made ^ bit(bend))) {
                setMade(made ^ bit(bend));
            }
        } else if (reason(bend, made) == 0) {
            setMade(made | bit(bend));
        }
    }

    /** The bytes that were fed and not read yet. */
    private static final class Tape {
        private static final int FED_AT_ONCE = 20;

        private final byte[] bytes = new byte[TAPE_BYTES];
        private int length;

        private boolean hasRoom() {
            return length <= TAPE_BYTES - FED_AT_ONCE;
        }

        private void put(int four) {
            for (int shift = 24; shift >= 0 && length < TAPE_BYTES; shift -= 8) {
                bytes[length] = (byte) (four >> shift);
                length++;
            }
        }

        /** The byte at a place, NONE behind the last one. */
        private int at(int place) {
            return place >= 0 && place < length && place < TAPE_BYTES ? bytes[place] & 255 : NONE;
        }
    }

    /** A part as it was told, with the ways, allowances and press that acts change. */
    private static final class Part {
        private static final int USUAL_PUNCH = 30;

        private int count;
        private int statements;
        private int thick;
        private int punch;
        private int ups;
        private int toolCount;
        private final int[] toolWidth = new int[TOOLS];
        private final int[] told = new int[RADII + 1];
        private final int[] name = new int[FLANGES];
        private final int[] parent = new int[FLANGES];
        private final int[] side = new int[FLANGES];
        private final int[] from = new int[FLANGES];
        private final int[] width = new int[FLANGES];
        private final int[] height = new int[FLANGES];
        private final int[] radius = new int[FLANGES];
        private final int[] toolSet = new int[FLANGES];

        private void clear() {
            count = 0;
            statements = 0;
            ups = 0;
            toolCount = 0;
            punch = USUAL_PUNCH;
            Arrays.fill(told, NONE);
        }

        private boolean isThere() {
            return count > 0;
        }

        private boolean isFlange(int flange) {
            return flange >= 0 && flange < count;
        }

        private boolean isBend(int bend) {
            return bend >= 1 && bend < count;
        }

        private boolean isPiece(int piece) {
            return isFlange(piece) || isBend(piece - BENDS);
        }

        private boolean isState(int state) {
            return isThere() && state >= 0 && state <= allBends();
        }

        private int allBends() {
            return count < 2 ? 0 : (1 << (count - 1)) - 1;
        }

        private int allowanceOf(int r) {
            return told[r] == NONE ? 11 * (2 * r + thick) / 14 : told[r];
        }

        private int zoneOf(int flange) {
            return allowanceOf(radius[flange]);
        }

        private int sizeX(int flange) {
            return runsAlongX(side[flange]) ? width[flange] : height[flange];
        }

        private int sizeY(int flange) {
            return runsAlongX(side[flange]) ? height[flange] : width[flange];
        }

        private int sideLength(int flange, int where) {
            return runsAlongX(where) ? sizeX(flange) : sizeY(flange);
        }

        private static boolean runsAlongX(int where) {
            return where == NORTH || where == SOUTH;
        }

        /** Whether a flange hangs on its own parent by this side of itself. */
        private boolean hangsBy(int flange, int where) {
            return flange > 0 && (side[flange] + 2) % 4 == where;
        }

        private boolean sharesSide(int flange, int other) {
            return parent[flange] == parent[other] && side[flange] == side[other]
                    && from[flange] < from[other] + width[other]
                    && from[other] < from[flange] + width[flange];
        }

        private int depth(int flange) {
            int n = 0;
            for (int f = flange; f > 0 && n < FLANGES; f = parent[f]) {
                n++;
            }
            return n;
        }

        private boolean hangsOn(int flange, int other) {
            int steps = 0;
            int f = flange;
            while (f > 0 && f != other && steps < FLANGES) {
                f = parent[f];
                steps++;
            }
            return f == other && flange != other;
        }

        private int countHangers(int flange) {
            int n = 0;
            for (int f = 1; f < count; f++) {
                if (hangsOn(f, flange)) {
                    n++;
                }
            }
            return n;
        }

        private int bendsBetween(int one, int other) {
            int a = one;
            int b = other;
            int n = 0;
            // a flange is told behind its parent, so the greater number is never above the other one
            while (a != b && n < 2 * FLANGES) {
                if (a > b) {
                    a = parent[a];
                } else {
                    b = parent[b];
                }
                n++;
            }
            return n;
        }

        private int lengthOf(int flange) {
            int sum = 0;
            for (int f = flange, n = 0; f > 0 && n < FLANGES; f = parent[f], n++) {
                sum += height[f] + zoneOf(f);
            }
            return sum;
        }

        /** How many bends of a radius go into the length of a flange. */
        private int timesInLength(int flange, int r) {
            int times = 0;
            for (int f = flange, n = 0; f > 0 && n < FLANGES; f = parent[f], n++) {
                if (radius[f] == r) {
                    times++;
                }
            }
            return times;
        }

        private void chooseTools() {
            Arrays.fill(toolSet, 0);
            int sets = 1 << toolCount;
            for (int set = 1; set < sets && set < STATES; set++) {
                offerTools(set, widthOfTools(set));
            }
        }

        private int widthOfTools(int set) {
            int sum = 0;
            for (int t = 0; t < toolCount; t++) {
                if ((set >> t & 1) != 0) {
                    sum += toolWidth[t];
                }
            }
            return sum;
        }

        private void offerTools(int set, int sum) {
            for (int f = 1; f < count; f++) {
                // sets come with rising bits, so of like many the first one stays
                boolean fewer = toolSet[f] == 0 || Integer.bitCount(set) < Integer.bitCount(toolSet[f]);
                if (width[f] == sum && fewer) {
                    toolSet[f] = set;
                }
            }
        }

        /** Whether there are no tools for a bend that is not made yet. */
        private boolean needsTools(int made) {
            boolean needs = false;
            for (int f = 1; f < count; f++) {
                needs |= toolSet[f] == 0 && !isIn(f, made);
            }
            return needs;
        }

        private int leastWidthWithoutTools() {
            int least = NONE;
            for (int f = 1; f < count; f++) {
                if (toolSet[f] == 0 && (least == NONE || width[f] < least)) {
                    least = width[f];
                }
            }
            return least;
        }

        private int countWithoutTools() {
            int n = 0;
            for (int f = 1; f < count; f++) {
                if (toolSet[f] == 0) {
                    n++;
                }
            }
            return n;
        }
    }

    /** Reads the tape as the text of a part, up to its first fault. */
    private static final class Reader {
        private static final int NAME_LETTERS = 4;
        private static final int LETTER_BITS = 5;
        private static final int LETTER_MASK = 31;
        private static final int DIGITS = 2;
        private static final int LINE_END = 10;
        private static final int BLANK = 32;
        private static final int SEMICOLON = 59;
        /** With a blank ahead of each word and behind the last one. */
        private static final String OWN_WORDS =
                " sheet thick base press tool allow flange on north east south west from wide high up down round ";

        private final Tape tape;
        private Part into;
        private int at;
        private int tokenStart;
        /** Where the latest word or number ended; NONE if something else came behind it. */
        private int tokenEnd;
        private int fault;
        private int place = NONE;

        private Reader(Tape tape) {
            this.tape = tape;
        }

        private void read(Part draft) {
            begin(draft);
            readSheet();
            for (int n = 0; n < TAPE_BYTES && fault == 0 && moreText(); n++) {
                readWord();
                if (wordIs("press")) {
                    into.punch = number(1, TALLEST_PUNCH);
                } else if (wordIs("tool")) {
                    readTool();
                } else if (wordIs("allow")) {
                    readAllow();
                } else if (wordIs("flange")) {
                    readFlange();
                } else {
                    fail(1, tokenStart);
                }
                semicolon();
            }
        }

        private void begin(Part draft) {
            into = draft;
            into.clear();
            at = 0;
            tokenEnd = NONE;
            fault = 0;
            place = NONE;
        }

        private void fail(int kind, int where) {
            if (fault == 0) {
                fault = kind;
                place = where;
            }
        }

        private boolean moreText() {
            skipBlanks();
            return at < tape.length;
        }

        private void skipBlanks() {
            while (at < tape.length && (tape.at(at) == BLANK || tape.at(at) == LINE_END)) {
                at++;
            }
            tokenStart = at;
        }

        private void readWord() {
            skipBlanks();
            while (at < tape.length && isLetter(tape.at(at))) {
                at++;
            }
            if (at == tokenStart || tokenStart == tokenEnd) {
                fail(1, tokenStart);
            }
            tokenEnd = at;
        }

        private static boolean isLetter(int c) {
            return c >= 'a' && c <= 'z';
        }

        private static boolean isDigit(int c) {
            return c >= '0' && c <= '9';
        }

        private boolean wordIs(String word) {
            boolean same = at - tokenStart == word.length();
            for (int i = 0; same && i < word.length(); i++) {
                same = tape.at(tokenStart + i) == word.charAt(i);
            }
            return same;
        }

        private boolean isOwnWord() {
            int matched = NONE;
            for (int i = 0; i < OWN_WORDS.length(); i++) {
                char c = OWN_WORDS.charAt(i);
                if (c == ' ') {
                    if (matched > 0 && tokenStart + matched == at) {
                        return true;
                    }
                    matched = 0;
                } else if (matched != NONE) {
                    matched = tape.at(tokenStart + matched) == c ? matched + 1 : NONE;
                }
            }
            return false;
        }

        private void keyword(String word) {
            readWord();
            if (!wordIs(word)) {
                fail(1, tokenStart);
            }
        }

        private int number(int least, int most) {
            skipBlanks();
            int value = 0;
            while (at < tape.length && at < tokenStart + DIGITS && isDigit(tape.at(at))) {
                value = 10 * value + tape.at(at) - '0';
                at++;
            }
            if (tokenStart == tokenEnd) {
                fail(1, tokenStart);
            }
            if (at == tokenStart || isDigit(tape.at(at))) {
                fail(1, at);
            }
            if (value < least || value > most) {
                fail(2, tokenStart);
            }
            tokenEnd = at;
            return value;
        }

        /** Ends a statement, which counts if there was no fault in it. */
        private void semicolon() {
            skipBlanks();
            if (tape.at(at) != SEMICOLON) {
                fail(1, at);
            }
            at++;
            tokenEnd = NONE;
            if (fault == 0) {
                into.statements++;
            }
        }

        private void readSheet() {
            keyword("sheet");
            keyword("thick");
            into.thick = number(1, 9);
            keyword("base");
            into.width[0] = number(1, 60);
            into.height[0] = number(1, 60);
            semicolon();
            into.count = 1;
        }

        private void readTool() {
            if (into.toolCount >= TOOLS) {
                fail(5, tokenStart);
                return;
            }
            into.toolWidth[into.toolCount] = number(1, 60);
            into.toolCount++;
        }

        private void readAllow() {
            int radius = number(1, RADII);
            int allowance = number(0, MOST_ALLOWANCE);
            if (fault == 0) {
                into.told[radius] = allowance;
            }
        }

        private void readFlange() {
            int f = into.count;
            if (f >= FLANGES) {
                fail(5, tokenStart);
                return;
            }
            into.name[f] = newName();
            keyword("on");
            into.parent[f] = where();
            into.side[f] = sideOf(into.parent[f]);
            keyword("from");
            into.from[f] = number(0, 59);
            keyword("wide");
            into.width[f] = number(1, 60);
            checkWidth(f);
            keyword("high");
            into.height[f] = number(1, 60);
            if (isUp()) {
                into.ups |= bit(f);
            }
            keyword("round");
            into.radius[f] = number(1, RADII);
            into.count++;
        }

        /** A name as one number, its first letter highest; 0 with a fault. */
        private int name() {
            if (isOwnWord()) {
                fail(1, tokenStart);
            }
            if (at > tokenStart + NAME_LETTERS) {
                fail(1, tokenStart + NAME_LETTERS);
            }
            int name = 0;
            for (int i = 0; i < NAME_LETTERS; i++) {
                int c = tokenStart + i < at ? tape.at(tokenStart + i) - 'a' + 1 : 0;
                name = name << LETTER_BITS | c;
            }
            return fault == 0 ? name : 0;
        }

        private int newName() {
            readWord();
            int name = name();
            if (find(name) != NONE) {
                fail(3, tokenStart);
            }
            return name;
        }

        private int find(int name) {
            for (int f = 1; f < into.count; f++) {
                if (into.name[f] == name) {
                    return f;
                }
            }
            return NONE;
        }

        private int where() {
            readWord();
            if (wordIs("base")) {
                return 0;
            }
            int found = find(name());
            if (found == NONE) {
                fail(3, tokenStart);
                return 0;
            }
            return found;
        }

        private int sideOf(int parent) {
            readWord();
            int side = NORTH;
            if (wordIs("east")) {
                side = EAST;
            } else if (wordIs("south")) {
                side = SOUTH;
            } else if (wordIs("west")) {
                side = WEST;
            } else if (!wordIs("north")) {
                fail(1, tokenStart);
            }
            if (into.hangsBy(parent, side)) {
                fail(4, tokenStart);
            }
            return side;
        }

        private void checkWidth(int f) {
            boolean fits = into.from[f] + into.width[f] <= into.sideLength(into.parent[f], into.side[f]);
            for (int other = 1; fits && other < f; other++) {
                fits = !into.sharesSide(f, other);
            }
            if (!fits) {
                fail(4, tokenStart);
            }
        }

        private boolean isUp() {
            readWord();
            boolean up = wordIs("up");
            if (!up && !wordIs("down")) {
                fail(1, tokenStart);
            }
            return up;
        }
    }

    /**
     * Where the pieces of a part lie, some bends being made. Directions are 0, 2, 4 along x, y, z, and
     * one more against these. Slots hold flanges, their zones behind these, and one punch.
     */
    private static final class Pose {
        private static final int PUNCH = FLANGES + BENDS;
        private static final int SLOTS = PUNCH + 1;

        private final int[] low = new int[3 * SLOTS];
        private final int[] high = new int[3 * SLOTS];
        private final int[] normal = new int[SLOTS];
        /** The corner of each flange that lies south-west when it is laid flat. */
        private final int[] corner = new int[3 * FLANGES];
        private final int[] east = new int[FLANGES];
        private final int[] north = new int[FLANGES];
        /** The end of a bend's line at its parent's side, from which its pieces are laid. */
        private final int[] start = new int[3];
        private final int[] far = new int[3];

        private void place(Part part, int made, int ups) {
            placeBase(part);
            for (int f = 1; f < part.count; f++) {
                goToSide(part, f);
                placeFlange(part, f, isIn(f, made), isIn(f, ups));
            }
        }

        private void placeFlat(Part part) {
            place(part, 0, 0);
            for (int f = 1; f < part.count; f++) {
                int parent = part.parent[f];
                int side = part.side[f];
                goToSide(part, f);
                setBox(f + BENDS, alongSide(parent, side), part.width[f], outward(parent, side), part.zoneOf(f));
            }
        }

        private void placeBase(Part part) {
            Arrays.fill(start, 0);
            Arrays.fill(corner, 0);
            east[0] = 0;
            north[0] = 2;
            normal[0] = 4;
            setBox(0, east[0], part.width[0], north[0], part.height[0]);
        }

        private void placeFlange(Part part, int f, boolean made, boolean up) {
            int parent = part.parent[f];
            int side = part.side[f];
            int out = outward(parent, side);
            int rise = out;
            normal[f] = normal[parent];
            if (made) {
                rise = up ? normal[parent] : against(normal[parent]);
                normal[f] = up ? against(out) : out;
            } else {
                move(start, out, part.zoneOf(f));
            }
            setBox(f, alongSide(parent, side), part.width[f], rise, part.height[f]);
            boolean backward = side == SOUTH || side == WEST;
            int forward = backward ? against(rise) : rise;
            east[f] = Part.runsAlongX(side) ? east[parent] : forward;
            north[f] = Part.runsAlongX(side) ? forward : north[parent];
            if (backward) {
                move(start, rise, part.height[f]);
            }
            System.arraycopy(start, 0, corner, 3 * f, 3);
        }

        private static int against(int direction) {
            return direction ^ 1;
        }

        private int outward(int flange, int side) {
            int forward = Part.runsAlongX(side) ? north[flange] : east[flange];
            return side == NORTH || side == EAST ? forward : against(forward);
        }

        private int alongSide(int flange, int side) {
            return Part.runsAlongX(side) ? east[flange] : north[flange];
        }

        private void goToSide(Part part, int f) {
            int parent = part.parent[f];
            int side = part.side[f];
            System.arraycopy(corner, 3 * parent, start, 0, 3);
            move(start, alongSide(parent, side), part.from[f]);
            if (side == NORTH) {
                move(start, north[parent], part.sizeY(parent));
            } else if (side == EAST) {
                move(start, east[parent], part.sizeX(parent));
            }
        }

        private static void move(int[] point, int direction, int length) {
            point[direction >> 1] += (direction & 1) == 0 ? length : -length;
        }

        /** Spans a slot from the start along a side, and away from it. */
        private void setBox(int slot, int along, int width, int rise, int height) {
            System.arraycopy(start, 0, far, 0, 3);
            move(far, along, width);
            move(far, rise, height);
            for (int axis = 0; axis < 3; axis++) {
                low[3 * slot + axis] = Math.min(start[axis], far[axis]);
                high[3 * slot + axis] = Math.max(start[axis], far[axis]);
            }
        }

        private int lowOf(int slot, int axis) {
            return low[3 * slot + axis];
        }

        private int highOf(int slot, int axis) {
            return high[3 * slot + axis];
        }

        private int signedNormal(int flange) {
            int axis = (normal[flange] >> 1) + 1;
            return (normal[flange] & 1) == 0 ? axis : -axis;
        }

        private int leastLow(int count, int axis) {
            int least = low[axis];
            for (int f = 1; f < count; f++) {
                least = Math.min(least, lowOf(f, axis));
            }
            return least;
        }

        private int mostHigh(int count, int axis) {
            int most = high[axis];
            for (int f = 1; f < count; f++) {
                most = Math.max(most, highOf(f, axis));
            }
            return most;
        }

        private int extent(int count, int axis) {
            return mostHigh(count, axis) - leastLow(count, axis);
        }

        private int size(int count) {
            return extent(count, 0) + extent(count, 1) + extent(count, 2);
        }

        private int area(Part part) {
            int sum = 0;
            for (int slot = 0; slot < PUNCH; slot++) {
                if (part.isPiece(slot)) {
                    sum += (highOf(slot, 0) - lowOf(slot, 0)) * (highOf(slot, 1) - lowOf(slot, 1));
                }
            }
            return sum;
        }

        private int gapOf(int one, int other) {
            int sum = 0;
            for (int axis = 0; axis < 3; axis++) {
                int least = Math.max(lowOf(one, axis), lowOf(other, axis));
                int most = Math.min(highOf(one, axis), highOf(other, axis));
                sum += Math.max(0, least - most);
            }
            return sum;
        }

        /** Whether two slots share more than a point along an axis; a zone may have no length there. */
        private boolean share(int one, int other, int axis) {
            int lowOne = low[3 * one + axis];
            int highOne = high[3 * one + axis];
            int lowOther = low[3 * other + axis];
            int highOther = high[3 * other + axis];
            return lowOne < highOther && lowOther < highOne && lowOne < highOne && lowOther < highOther;
        }

        /** How many pieces laid flat overlap (k NONE), or the k-th pair as one number. */
        private int overlaps(Part part, int k) {
            int n = 0;
            for (int one = 0; one < PUNCH; one++) {
                for (int other = one + 1; other < PUNCH; other++) {
                    boolean both = part.isPiece(one) && part.isPiece(other);
                    if (both && share(one, other, 0) && share(one, other, 1)) {
                        if (n == k) {
                            return one * SLOTS + other;
                        }
                        n++;
                    }
                }
            }
            return k == NONE ? n : NONE;
        }

        /** How many flanges clash (k NONE), or the k-th pair: ten times the first one and the other. */
        private int clashes(int count, int k) {
            int n = 0;
            for (int one = 0; one < count; one++) {
                for (int other = one + 1; other < count; other++) {
                    if (doClash(one, other)) {
                        if (n == k) {
                            return 10 * one + other;
                        }
                        n++;
                    }
                }
            }
            return k == NONE ? n : NONE;
        }

        private boolean doClash(int one, int other) {
            int a = normal[one] >> 1;
            int b = normal[other] >> 1;
            if (a == b) {
                return low[3 * one + a] == low[3 * other + a]
                        && share(one, other, (a + 1) % 3) && share(one, other, (a + 2) % 3);
            }
            return isWithin(one, other, a) && isWithin(other, one, b) && share(one, other, 3 - a - b);
        }

        /** Whether the plane of a slot lies truly between the ends of another one. */
        private boolean isWithin(int one, int other, int axis) {
            int plane = low[3 * one + axis];
            return low[3 * other + axis] < plane && plane < high[3 * other + axis];
        }

        /** Stands the punch on a bend's line; answers the way it rises. */
        private int standPunch(Part part, int bend, boolean up, int height) {
            int parent = part.parent[bend];
            int side = part.side[bend];
            int rise = up ? normal[parent] : against(normal[parent]);
            goToSide(part, bend);
            setBox(PUNCH, alongSide(parent, side), part.width[bend], rise, height);
            normal[PUNCH] = outward(parent, side);
            return rise;
        }

        private int metByPunch(Part part, int bend) {
            standPunch(part, bend, isIn(bend, part.ups), part.punch);
            int met = 0;
            for (int f = 0; f < part.count; f++) {
                if (doClash(PUNCH, f)) {
                    met |= 1 << f;
                }
            }
            return met;
        }

        /** How high the punch of a bend may be without meeting a flange. */
        private int roomFor(Part part, int bend, boolean up) {
            int rise = standPunch(part, bend, up, TALLEST_PUNCH);
            int axis = rise >> 1;
            int room = TALLEST_PUNCH;
            for (int f = 0; f < part.count; f++) {
                if (doClash(PUNCH, f)) {
                    // a lower punch meets this flange, too, as soon as it goes beyond its near end
                    int near = (rise & 1) == 0 ? lowOf(f, axis) - start[axis] : start[axis] - highOf(f, axis);
                    room = Math.min(room, Math.max(0, near));
                }
            }
            return room;
        }
    }

    /** All orders of the bends from one state on, over the table of all states. */
    private static final class Orders {
        private static final int FAR = 1000;

        /** By state and bend: how high the punch may be; 0 where the bend can't be made at all. */
        private final int[] room = new int[STATES * BENDS];
        private final byte[] clashing = new byte[STATES];
        private final byte[] reach = new byte[STATES];
        /** How many orders go on from a state. */
        private final int[] ways = new int[STATES];
        /** By state and bend: the fewest switches behind that bend, if it is made there. */
        private final int[] switches = new int[STATES * BENDS];
        /** What tells a switch between bends: their ways, or their tools. */
        private final int[] kind = new int[BENDS + 1];
        private final int[] best = new int[STATES];
        private final int[] row = new int[BENDS];
        private int rowLength;
        private int bends;
        private int full;
        private int first;
        private int punch;

        private void measureRooms(Pose pose, Part part, int ups) {
            full = part.allBends();
            bends = part.count - 1;
            // states with more bends come first, since a bend asks whether the next state clashes
            for (int s = full; s >= 0; s--) {
                pose.place(part, s, ups);
                clashing[s] = (byte) (pose.clashes(part.count, 0) != NONE ? 1 : 0);
                for (int b = 1; b <= bends; b++) {
                    boolean never = isIn(b, s) || part.toolSet[b] == 0 || clashing[s | bit(b)] != 0;
                    room[cell(s, b)] = never ? 0 : pose.roomFor(part, b, isIn(b, ups));
                }
            }
        }

        private static int cell(int state, int bend) {
            return state * BENDS + bend - 1;
        }

        private boolean isClear(int state, int bend) {
            return room[cell(state, bend)] >= punch;
        }

        private void searchFrom(int made, int height) {
            first = made;
            punch = Math.max(1, height);
            Arrays.fill(reach, (byte) 0);
            Arrays.fill(ways, 0);
            reach[first] = 1;
            for (int s = first; s <= full; s++) {
                for (int b = 1; b <= bends && isReached(s); b++) {
                    if (isClear(s, b)) {
                        reach[s | bit(b)] = 1;
                    }
                }
            }
            ways[full] = reach[full];
            for (int s = full - 1; s >= first; s--) {
                for (int b = 1; b <= bends && isReached(s); b++) {
                    ways[s] += isClear(s, b) ? ways[s | bit(b)] : 0;
                }
            }
        }

        private boolean isReached(int state) {
            return reach[state] != 0;
        }

        private int ordersFrom(int state) {
            return ways[state];
        }

        private boolean goesOn(int state, int bend) {
            return isClear(state, bend) && ways[state | bit(bend)] > 0;
        }

        private void walkFirst() {
            int s = first;
            rowLength = 0;
            for (int step = 0; step < BENDS && s != full; step++) {
                int next = firstThatGoesOn(s);
                if (next == 0) {
                    return;
                }
                s = append(s, next);
            }
        }

        private int firstThatGoesOn(int state) {
            for (int b = 1; b <= bends; b++) {
                if (goesOn(state, b)) {
                    return b;
                }
            }
            return 0;
        }

        private int append(int state, int bend) {
            if (rowLength < BENDS) {
                row[rowLength] = bend;
                rowLength++;
            }
            return state | bit(bend);
        }

        private int rowAt(int k) {
            return k < 0 || k >= rowLength || k >= BENDS ? NONE : row[k];
        }

        private int firstOfRow(int n) {
            int bits = 0;
            for (int k = 0; k < n && k < rowLength; k++) {
                bits |= bit(row[k]);
            }
            return bits;
        }

        private boolean canEndWith(int bend) {
            int before = full & ~bit(bend);
            return isReached(before) && isClear(before, bend);
        }

        /** Whether some order makes the one bend while the other one is not made. */
        private boolean passesWithout(int one, int other) {
            for (int s = first; s <= full; s++) {
                if (isReached(s) && ways[s] > 0 && isIn(one, s) && !isIn(other, s)) {
                    return true;
                }
            }
            return false;
        }

        private int countReached() {
            int n = 0;
            for (int s = first; s <= full; s++) {
                n += reach[s];
            }
            return n;
        }

        private int clearBends(int state) {
            int bits = 0;
            for (int b = 1; b <= bends; b++) {
                if (isClear(state, b)) {
                    bits |= bit(b);
                }
            }
            return bits;
        }

        private boolean isDeadEnd(int state) {
            return state != full && isReached(state) && clearBends(state) == 0;
        }

        private int countDeadEnds() {
            int n = 0;
            for (int s = first; s <= full; s++) {
                n += isDeadEnd(s) ? 1 : 0;
            }
            return n;
        }

        private int fullestDeadEnd() {
            int found = NONE;
            for (int s = first; s <= full; s++) {
                if (isDeadEnd(s) && (found == NONE || Integer.bitCount(s) > Integer.bitCount(found))) {
                    found = s;
                }
            }
            return found;
        }

        private int blocked() {
            int clear = first;
            for (int s = first; s <= full; s++) {
                if (isReached(s)) {
                    clear |= clearBends(s);
                }
            }
            return full & ~clear;
        }

        /** Counts switches of the way (what 0), of the tools (what 1), behind each bend in each state. */
        private void countSwitches(Part part, int what) {
            for (int b = 1; b <= bends; b++) {
                int way = isIn(b, part.ups) ? 1 : 0;
                kind[b] = what == 0 ? way : part.toolSet[b];
            }
            for (int s = full; s >= first; s--) {
                for (int b = 1; b <= bends && isReached(s); b++) {
                    switches[cell(s, b)] = goesOn(s, b) ? leastFrom(s | bit(b), b) : FAR;
                }
            }
        }

        /** The fewest switches from a state on, with the bend that was made last (0: none). */
        private int leastFrom(int state, int last) {
            if (state == full) {
                return 0;
            }
            int least = FAR;
            for (int b = 1; b <= bends; b++) {
                if (goesOn(state, b)) {
                    least = Math.min(least, switchesWith(state, last, b));
                }
            }
            return least;
        }

        private int switchesWith(int state, int last, int bend) {
            int one = last == 0 || kind[last] == kind[bend] ? 0 : 1;
            return one + switches[cell(state, bend)];
        }

        private void walkThrifty() {
            int s = first;
            int last = 0;
            rowLength = 0;
            for (int step = 0; step < BENDS && s != full; step++) {
                last = firstThrifty(s, last);
                if (last == 0) {
                    return;
                }
                s = append(s, last);
            }
        }

        private int firstThrifty(int state, int last) {
            int least = leastFrom(state, last);
            for (int b = 1; b <= bends; b++) {
                if (goesOn(state, b) && switchesWith(state, last, b) == least) {
                    return b;
                }
            }
            return 0;
        }

        /** The tallest punch by which some order is left; 0 when by none. */
        private int tallestPunch() {
            best[full] = TALLEST_PUNCH;
            for (int s = full - 1; s >= first; s--) {
                best[s] = 0;
                for (int b = 1; b <= bends; b++) {
                    if (room[cell(s, b)] > 0) {
                        best[s] = Math.max(best[s], Math.min(room[cell(s, b)], best[s | bit(b)]));
                    }
                }
            }
            return best[first];
        }
    }

    /**
     * Looks for bends to turn. A code has a digit of three for each bend: 0 not made, 1 made down, 2
     * made up; so all ways are tried at once, and a code is looked at once, not once for each of them.
     */
    private static final class Mender {
        private static final int[] POWERS = {1, 3, 9, 27, 81, 243, 729, 2187, 6561};
        private static final int CLASHING = 100;

        /**
         * Of each code that can be reached one more than the bends that were turned for it, or CLASHING. Made
         * when it is first asked for, since most parts never need it.
         */
        private byte[] marks;
        private int codeMade;
        private int codeUps;

        private int leastTurns(Pose pose, Part part, int made) {
            if (part.needsTools(made)) {
                return NONE;
            }
            if (marks == null) {
                marks = new byte[POWERS[BENDS]];
            }
            Arrays.fill(marks, (byte) 0);
            int found = NONE;
            int start = codeOf(made, part.ups);
            int codes = POWERS[part.count - 1];
            marks[start] = 1;
            // codes with fewer turns come first, and a code leads to greater ones with as many or one more
            for (int turns = 0; turns < part.count && found == NONE; turns++) {
                for (int code = start; code < codes; code++) {
                    if (marks[code] == turns + 1) {
                        decode(code);
                        if (codeMade == part.allBends()) {
                            int turned = codeUps ^ part.ups;
                            found = found == NONE ? turned : Math.min(found, turned);
                        } else {
                            spread(pose, part, code);
                        }
                    }
                }
            }
            return found;
        }

        private static int codeOf(int made, int ups) {
            int code = 0;
            for (int b = 1; b <= BENDS; b++) {
                if (isIn(b, made)) {
                    code += (isIn(b, ups) ? 2 : 1) * POWERS[b - 1];
                }
            }
            return code;
        }

        private void decode(int code) {
            codeMade = 0;
            codeUps = 0;
            int rest = code;
            for (int b = 1; b <= BENDS; b++) {
                if (rest % 3 != 0) {
                    codeMade |= bit(b);
                }
                if (rest % 3 == 2) {
                    codeUps |= bit(b);
                }
                rest /= 3;
            }
        }

        /** Marks all codes that come of a code by one bend, made either way. */
        private void spread(Pose pose, Part part, int code) {
            int ups = 0;
            int downs = 0;
            pose.place(part, codeMade, codeUps);
            for (int b = 1; b < part.count; b++) {
                if (!isIn(b, codeMade)) {
                    ups |= pose.roomFor(part, b, true) >= part.punch ? bit(b) : 0;
                    downs |= pose.roomFor(part, b, false) >= part.punch ? bit(b) : 0;
                }
            }
            for (int b = 1; b < part.count; b++) {
                if (isIn(b, downs)) {
                    mark(pose, part, code + POWERS[b - 1]);
                }
                if (isIn(b, ups)) {
                    mark(pose, part, code + 2 * POWERS[b - 1]);
                }
            }
        }

        private void mark(Pose pose, Part part, int code) {
            if (marks != null && code < marks.length && marks[code] == 0) {
                decode(code);
                pose.place(part, codeMade, codeUps);
                int turns = Integer.bitCount((codeUps ^ part.ups) & codeMade);
                marks[code] = (byte) (pose.clashes(part.count, 0) == NONE ? turns + 1 : CLASHING);
            }
        }
    }

    /** What the latest acts changed, as it was ahead of them. */
    private static final class History {
        private static final int KEPT = 20;
        private static final int ROW = RADII + 3;

        private final int[] rows = new int[KEPT * ROW];
        private int size;
        private int next;

        private void keep(Part part, int made) {
            int at = next * ROW;
            rows[at] = made;
            rows[at + 1] = part.ups;
            rows[at + 2] = part.punch;
            System.arraycopy(part.told, 1, rows, at + 3, RADII);
            next = (next + 1) % KEPT;
            size = Math.min(size + 1, KEPT);
        }

        /** Sets the part back to the latest row; answers the bends that were made. */
        private int takeBack(Part part) {
            next = (next + KEPT - 1) % KEPT;
            size = Math.max(0, size - 1);
            int at = next * ROW;
            part.ups = rows[at + 1];
            part.punch = rows[at + 2];
            System.arraycopy(rows, at + 3, part.told, 1, RADII);
            return rows[at];
        }
    }

    /** Lengths that were measured, and which allowances of a radius explain them. */
    private static final class Measured {
        private static final int MOST_ROWS = 8;
        private static final int ROW_BYTES = 3;

        private final int[] flanges = new int[MOST_ROWS];
        private final int[] lengths = new int[MOST_ROWS];
        private int rows;

        private boolean take(Tape tape, Part part) {
            int count = tape.length / ROW_BYTES;
            boolean told = tape.length % ROW_BYTES == 0 && count >= 1 && count <= MOST_ROWS;
            for (int i = 0; told && i < count; i++) {
                told = part.isBend(tape.at(ROW_BYTES * i));
            }
            if (!told) {
                return false;
            }
            for (int i = 0; i < count; i++) {
                flanges[i] = tape.at(ROW_BYTES * i);
                lengths[i] = 256 * tape.at(ROW_BYTES * i + 1) + tape.at(ROW_BYTES * i + 2);
            }
            rows = count;
            return true;
        }

        private boolean explains(Part part, int radius, int allowance) {
            int more = allowance - part.allowanceOf(radius);
            boolean so = true;
            for (int i = 0; so && i < rows; i++) {
                int f = flanges[i];
                so = part.lengthOf(f) + more * part.timesInLength(f, radius) == lengths[i];
            }
            return so;
        }

        /** How many allowances fit (k NONE), or the k-th of them. */
        private int fitAt(Part part, int radius, int k) {
            int n = 0;
            for (int v = 0; v <= MOST_ALLOWANCE; v++) {
                if (explains(part, radius, v)) {
                    if (n == k) {
                        return v;
                    }
                    n++;
                }
            }
            return k == NONE ? n : NONE;
        }

        /** A length tells each fit from the others if the radius goes into it, else none of them. */
        private int mostLeft(Part part, int flange, int radius, int fits) {
            return part.timesInLength(flange, radius) > 0 ? 1 : fits;
        }

        private int tellingFlange(Part part, int radius, int fits) {
            int found = 1;
            for (int f = 2; f < part.count; f++) {
                if (mostLeft(part, f, radius, fits) < mostLeft(part, found, radius, fits)) {
                    found = f;
                }
            }
            return found;
        }
    }
}
