import java.math.BigInteger;

/** The edges of the promises 36 to 49: what was measured, acts, what was refused. */
final class ActEdges extends Check {
    /** Three bends that roll up over the base; its third punch would go down through the base at the last. */
    private static final String ROLL = "sheet thick 1 base 6 6;tool 6;allow 1 0;"
            + "flange a on base north from 0 wide 6 high 4 up round 1;"
            + "flange c on a north from 0 wide 6 high 4 up round 1;"
            + "flange d on c north from 0 wide 6 high 3 up round 1;";
    /** Laid flat the third flange would lie upon the second one. */
    private static final String HEAP = "sheet thick 1 base 10 10;tool 4;allow 1 0;allow 2 1;"
            + "flange a on base north from 0 wide 4 high 8 up round 1;"
            + "flange b on base north from 6 wide 4 high 8 up round 1;"
            + "flange c on a east from 0 wide 4 high 6 up round 2;";
    /** Three bends of which none hinders another one. */
    private static final String CROSS = "sheet thick 1 base 6 6;tool 6;"
            + "flange a on base north from 0 wide 6 high 2 up round 1;"
            + "flange b on base east from 0 wide 6 high 2 up round 1;"
            + "flange c on base south from 0 wide 6 high 2 up round 1;";
    /** Lengths: a 10 and v, b 15 and twice v, c 7 and w, v and w the allowances of the radii 1 and 2. */
    private static final String RULER = "sheet thick 1 base 6 6;allow 1 8;allow 2 9;"
            + "flange a on base north from 0 wide 6 high 10 up round 1;"
            + "flange b on a north from 0 wide 6 high 5 up round 1;"
            + "flange c on base east from 0 wide 6 high 7 up round 2;";

    private ActEdges() {
    }

    static void all() {
        see();
        fits();
        tells();
        bend();
        open();
        turn();
        lay();
        follow();
        allow();
        press();
        chance();
        undo();
        seed();
        status();
    }

    /** Rows of a flange and a length. */
    private static String rows(int... flangesAndLengths) {
        StringBuilder text = new StringBuilder();
        for (int i = 0; i < flangesAndLengths.length; i += 2) {
            text.append((char) flangesAndLengths[i]);
            text.append((char) (flangesAndLengths[i + 1] >> 8)).append((char) (flangesAndLengths[i + 1] & 255));
        }
        return text.toString();
    }

    private static SheetFolds seen(String text, int... flangesAndLengths) {
        SheetFolds x = of(text);
        put(x, rows(flangesAndLengths));
        due("rows", x.see(), flangesAndLengths.length / 2);
        return x;
    }

    private static void see() {
        says(36, "The tape (it goes) tells what is SEEN, 1 to 8 rows of three bytes (a FLANGE but the BASE; a LENGTH, the higher"
                + " byte first): how many rows");
        SheetFolds x = of(RULER);
        put(x, rows(1, 18));
        due("one row", x.see(), 1);
        due("the tape went", x.end(1), false);
        put(x, rows(3, 16).repeat(8));
        due("eight rows", x.see(), 8);
        due("in place of those ahead", x.has(5), 8);
        put(x, rows(1, 0, 2, 65535));
        due("any length", x.see(), 2);
        due("in place of those ahead", x.has(5), 2);
        due("the state is no matter", x.lay(7), true);
        put(x, rows(1, 18));
        due("one row, folded", x.see(), 1);
        due("no act", x.has(6), 1);
        says(36, "NONE, refused (5), all staying, when it is none such.");
        String[] none = {"", rows(1, 18) + "\1", rows(1, 18) + "\1\0", "\1", "\1\0", rows(0, 18), rows(4, 18), rows(255, 18),
            rows(1, 18, 0, 0), rows(1, 18).repeat(8) + rows(4, 18), rows(1, 18).repeat(9), rows(1, 18).repeat(8) + "\1",
            rows(1, 18).repeat(100)};
        for (int i = 0; i < none.length; i++) {
            put(x, none[i]);
            due("no rows " + i, x.see(), NONE);
            due("status(5)", x.status(5), i + 1);
            due("has(5)", x.has(5), 1);
            due("what was seen stays", x.fits(1, 0), 8);
            due("the tape went", x.end(1), false);
        }
        SheetFolds alone = of(SHEET);
        put(alone, rows(1, 18));
        due("no bends", alone.see(), NONE);
        SheetFolds y = new SheetFolds();
        put(y, rows(1, 18));
        due("without a part", y.see(), NONE);
        due("status(5)", y.status(5), 1);
        due("the tape went", y.end(1), false);
    }

    private static void dueFits(SheetFolds x, int radius, int... want) {
        due("fits(" + radius + ", NONE)", x.fits(radius, NONE), want.length);
        for (int k = 0; k < want.length; k++) {
            due("fits(" + radius + ", " + k + ")", x.fits(radius, k), want[k]);
        }
        for (int k : new int[] {Integer.MIN_VALUE, -2, want.length, Integer.MAX_VALUE}) {
            due("fits(" + radius + ", " + k + ")", x.fits(radius, k), NONE);
        }
    }

    private static int[] all61() {
        int[] all = new int[61];
        for (int v = 0; v <= 60; v++) {
            all[v] = v;
        }
        return all;
    }

    private static void fits() {
        terms("FITS are ALLOWANCES 0 .. 60 of a RADIUS, in place of its own, by which all is so.");
        dueFits(seen(RULER, 1, 9), 1);
        dueFits(seen(RULER, 1, 10), 1, 0);
        dueFits(seen(RULER, 1, 70), 1, 60);
        dueFits(seen(RULER, 1, 71), 1);
        dueFits(seen(RULER, 2, 13), 1);
        dueFits(seen(RULER, 2, 15), 1, 0);
        dueFits(seen(RULER, 2, 16), 1);
        dueFits(seen(RULER, 2, 17), 1, 1);
        dueFits(seen(RULER, 2, 135), 1, 60);
        dueFits(seen(RULER, 2, 137), 1);
        dueFits(seen(RULER, 1, 18, 2, 31), 1, 8);
        dueFits(seen(RULER, 1, 18, 2, 33), 1);
        dueFits(seen(RULER, 1, 20, 1, 20, 2, 35, 3, 16), 1, 10);
        dueFits(seen(RULER, 1, 20, 3, 17), 1);
        dueFits(seen(RULER, 3, 16), 1, all61());
        dueFits(seen(RULER, 3, 17), 1);
        dueFits(seen(RULER, 1, 18), 2, all61());
        dueFits(seen(RULER, 1, 256 + 18), 2);
        dueFits(seen(RULER, 1, 65535), 1);
        dueFits(seen(RULER, 1, 0), 1);
        SheetFolds x = seen(RULER, 1, 20);
        x.allow(1, 33);
        dueFits(x, 1, 10);
        x.allow(1, 10);
        dueFits(x, 2, all61());
        says(37, "FITS of a RADIUS (1 .. 9): how many (k NONE), the k-th, rising. NONE when there is none such, or nothing is"
                + " SEEN.");
        dueFits(seen(RULER, 1, 18), 9, all61());
        for (int r : outside(1, 9)) {
            due("fits(" + r + ", NONE)", x.fits(r, NONE), NONE);
            due("fits(" + r + ", 0)", x.fits(r, 0), NONE);
        }
        due("nothing seen", of(RULER).fits(1, NONE), NONE);
        due("nothing seen", of(RULER).fits(1, 0), NONE);
        due("without a part", new SheetFolds().fits(1, NONE), NONE);
        SheetFolds row = seen("sheet thick 1 base 6 6;allow 1 60;flange a on base north from 0 wide 6 high 60 up round 1;"
                + "flange b on a north from 0 wide 6 high 60 up round 1;flange c on b north from 0 wide 6 high 60 up round 1;",
                3, 360);
        dueFits(row, 1, 60);
    }

    private static void tells() {
        terms("TELLING is the FLANGE by whose LENGTH the most FITS left are fewest; of like ones the first.");
        SheetFolds x = seen(RULER, 3, 16);
        due("a and b tell all, a is the first", x.tells(1, 0), 1);
        due("one is left", x.tells(1, 1), 1);
        SheetFolds y = seen(RULER, 1, 18);
        due("c alone", y.tells(2, 0), 3);
        due("one is left", y.tells(2, 1), 1);
        due("none tells: the first", y.tells(3, 0), 1);
        due("all are left", y.tells(3, 1), 61);
        due("one fit: the first", y.tells(1, 0), 1);
        due("one is left", y.tells(1, 1), 1);
        says(38, "TELLING by a RADIUS: the FLANGE (what 0), how many FITS are left at the most (1). NONE without FITS, for"
                + " others, or when nothing is SEEN.");
        due("radius 9", y.tells(9, 1), 61);
        SheetFolds none = seen(RULER, 1, 9);
        for (int what = 0; what < 2; what++) {
            due("without fits", none.tells(1, what), NONE);
            due("without fits", none.tells(2, what), NONE);
            due("nothing seen", of(RULER).tells(1, what), NONE);
            due("without a part", new SheetFolds().tells(1, what), NONE);
            for (int r : outside(1, 9)) {
                due("tells(" + r + ", " + what + ")", y.tells(r, what), NONE);
            }
        }
        for (int what : outside(0, 1)) {
            due("tells(1, " + what + ")", y.tells(1, what), NONE);
        }
    }

    /** Nothing came of a refused call. */
    private static void stays(SheetFolds x, int kind, int refused, int made, int acts) {
        due("status(" + kind + ")", x.status(kind), refused);
        due("has(4)", x.has(4), made);
        due("has(6)", x.has(6), acts);
    }

    private static void bend() {
        says(39, "A BEND is MADE: 0; a REASON (1 .. 4), refused (2), when it isn't CLEAR; NONE, refused (2), when there is none"
                + " such.");
        SheetFolds x = of(ROLL);
        due("made", x.bend(1), 0);
        stays(x, 2, 0, 1, 1);
        due("it is made", x.bend(1), 1);
        stays(x, 2, 1, 1, 1);
        x.bend(2);
        due("its punch", x.bend(3), 3);
        stays(x, 2, 2, 3, 2);
        int refused = 2;
        for (int b : outside(1, 3)) {
            due("bend(" + b + ")", x.bend(b), NONE);
            refused++;
            stays(x, 2, refused, 3, 2);
        }
        SheetFolds deep = of(ROLL.replace("high 3", "high 5") + "press 4;");
        deep.lay(3);
        due("a clash", deep.bend(3), 4);
        stays(deep, 2, 1, 3, 1);
        SheetFolds lacking = of(ROLL.replace("tool 6", "tool 5"));
        due("its tools", lacking.bend(1), 2);
        stays(lacking, 2, 1, 0, 0);
        due("no bends", of(SHEET).bend(1), NONE);
        SheetFolds none = new SheetFolds();
        due("without a part", none.bend(1), NONE);
        stays(none, 2, 1, 0, 0);
    }

    private static void open() {
        says(40, "A BEND is opened: true; false, refused (2), when it is not MADE, two FLANGES would CLASH then, or there is none"
                + " such.");
        SheetFolds x = of(HEAP);
        x.lay(6);
        due("opened", x.open(3), true);
        stays(x, 2, 0, 2, 2);
        due("not made", x.open(3), false);
        stays(x, 2, 1, 2, 2);
        due("a clash", x.open(2), false);
        stays(x, 2, 2, 2, 2);
        due("not made, and a clash there would be", x.open(1), false);
        int refused = 3;
        for (int b : outside(1, 3)) {
            due("open(" + b + ")", x.open(b), false);
            refused++;
            stays(x, 2, refused, 2, 2);
        }
        terms("one that is MADE is opened, if no two FLANGES CLASH then");
        SheetFolds lacking = of(ROLL.replace("tool 6", "tool 5"));
        lacking.lay(7);
        due("without tools", lacking.open(1), true);
        due("no bends", of(SHEET).open(1), false);
        SheetFolds none = new SheetFolds();
        due("without a part", none.open(1), false);
        stays(none, 2, 1, 0, 0);
    }

    private static void turn() {
        says(41, "A BEND is turned: true; false, refused (2), when it is MADE, or there is none such.");
        SheetFolds x = of(ROLL);
        due("down", x.turn(3), true);
        due("flange(3, 5)", x.flange(3, 5), 0);
        due("the others stay", x.flange(2, 5), 1);
        stays(x, 2, 0, 0, 1);
        due("up", x.turn(3), true);
        due("flange(3, 5)", x.flange(3, 5), 1);
        x.bend(1);
        due("made", x.turn(1), false);
        due("flange(1, 5)", x.flange(1, 5), 1);
        stays(x, 2, 1, 1, 3);
        int refused = 1;
        for (int b : outside(1, 3)) {
            due("turn(" + b + ")", x.turn(b), false);
            refused++;
            stays(x, 2, refused, 1, 3);
        }
        due("no bends", of(SHEET).turn(1), false);
        SheetFolds none = new SheetFolds();
        due("without a part", none.turn(1), false);
        stays(none, 2, 1, 0, 0);
        terms("one that is not MADE is turned (up, down)");
        SheetFolds clashing = of(HEAP);
        due("a clash is no matter", clashing.turn(1), true);
        due("none is made by it", clashing.has(4), 0);
    }

    private static void lay() {
        says(42, "Just a STATE's BENDS are MADE: true; false, refused (2), when two FLANGES CLASH in it, it is so, or there is"
                + " none such.");
        SheetFolds x = of(HEAP);
        due("it is so", x.lay(0), false);
        stays(x, 2, 1, 0, 0);
        due("not by clear bends", x.lay(7), true);
        stays(x, 2, 1, 7, 1);
        due("it is so", x.lay(7), false);
        due("some are opened", x.lay(2), true);
        stays(x, 2, 2, 2, 2);
        due("two clash", x.lay(0), false);
        stays(x, 2, 3, 2, 2);
        due("one is opened, one made", x.lay(4), true);
        int refused = 3;
        for (int state : outside(0, 7)) {
            due("lay(" + state + ")", x.lay(state), false);
            refused++;
            stays(x, 2, refused, 4, 3);
        }
        terms("just some BENDS are MADE, if no two FLANGES CLASH then");
        SheetFolds lacking = of(ROLL.replace("tool 6", "tool 5"));
        due("without tools", lacking.lay(7), true);
        due("back to none", lacking.lay(0), true);
        SheetFolds alone = of(SHEET);
        due("no bends: it is so", alone.lay(0), false);
        due("no bends: no such", alone.lay(1), false);
        stays(alone, 2, 2, 0, 0);
        SheetFolds none = new SheetFolds();
        due("without a part", none.lay(0), false);
        stays(none, 2, 1, 0, 0);
    }

    private static void follow() {
        says(43, "The next n BENDS (1 and on) of THE ORDER are MADE: BENDS that are MADE, as bits; NONE, refused (3), when there"
                + " are not so many, or there is no ORDER.");
        SheetFolds x = of(ROLL);
        due("one", x.follow(1), 1);
        due("the next", x.follow(1), 5);
        stays(x, 3, 0, 5, 2);
        due("one too many", x.follow(2), NONE);
        stays(x, 3, 1, 5, 2);
        due("the last", x.follow(1), 7);
        due("none is left", x.follow(1), NONE);
        stays(x, 3, 2, 7, 3);
        SheetFolds y = of(ROLL);
        due("all, one act", y.follow(3), 7);
        stays(y, 3, 0, 7, 1);
        due("undone, all of them", y.undo(), true);
        stays(y, 3, 0, 0, 0);
        int refused = 0;
        for (int n : outside(1, 3)) {
            due("follow(" + n + ")", y.follow(n), NONE);
            refused++;
            stays(y, 3, refused, 0, 0);
        }
        SheetFolds stuck = of(ROLL);
        stuck.lay(3);
        due("no order", stuck.follow(1), NONE);
        stays(stuck, 3, 1, 3, 1);
        SheetFolds late = of(ROLL + "flange e on base east from 0 wide 5 high 1 up round 1;");
        due("no order, though some are clear", late.follow(1), NONE);
        due("no bends", of(SHEET).follow(1), NONE);
        due("no bends", of(SHEET).follow(0), NONE);
        SheetFolds none = new SheetFolds();
        due("without a part", none.follow(1), NONE);
        stays(none, 3, 1, 0, 0);
    }

    private static void allow() {
        says(44, "Another ALLOWANCE (0 .. 60) of a RADIUS: true; false, refused (3), when it is that, these can't be, or without"
                + " a part.");
        SheetFolds x = of(RULER);
        due("the least", x.allow(1, 0), true);
        due("allowance(1)", x.allowance(1), 0);
        due("the greatest", x.allow(1, 60), true);
        due("allowance(1)", x.allowance(1), 60);
        due("of radius 9", x.allow(9, 5), true);
        due("the others stay", x.allowance(2), 9);
        stays(x, 3, 0, 0, 3);
        due("it is that, as told", x.allow(2, 9), false);
        due("it is that, by its radius", x.allow(3, 5), false);
        due("it is that by now", x.allow(1, 60), false);
        stays(x, 3, 3, 0, 3);
        int refused = 3;
        for (int v : outside(0, 60)) {
            due("allow(1, " + v + ")", x.allow(1, v), false);
            refused++;
            stays(x, 3, refused, 0, 3);
        }
        for (int r : outside(1, 9)) {
            due("allow(" + r + ", 5)", x.allow(r, 5), false);
            refused++;
            stays(x, 3, refused, 0, 3);
        }
        due("allowance(1)", x.allowance(1), 60);
        due("length", x.flange(1, 9), 70);
        terms("another ALLOWANCE of a RADIUS (it is as told then)");
        due("of no flange, all the same", of(SHEET).allow(1, 3), true);
        SheetFolds heap = of(HEAP.replace("allow 2 1", "allow 2 15"));
        due("a clash is no matter", heap.allow(2, 0), true);
        due("it clashes", heap.clash(0, NONE), 1);
        SheetFolds none = new SheetFolds();
        due("without a part", none.allow(1, 3), false);
        stays(none, 3, 1, 0, 0);
        due("without a part", none.allowance(1), NONE);
    }

    private static void press() {
        says(45, "Another press (1 .. 99): true; false, refused (3), when it is that, it can't be, or without a part.");
        SheetFolds x = of(ROLL);
        due("the lowest", x.press(1), true);
        due("has(3)", x.has(3), 1);
        due("the highest", x.press(99), true);
        due("has(3)", x.has(3), 99);
        due("it is that", x.press(99), false);
        stays(x, 3, 1, 0, 2);
        int refused = 1;
        for (int h : outside(1, 99)) {
            due("press(" + h + ")", x.press(h), false);
            refused++;
            stays(x, 3, refused, 0, 2);
        }
        due("has(3)", x.has(3), 99);
        due("30 without", of(SHEET).press(30), false);
        due("no bends, all the same", of(SHEET).press(31), true);
        SheetFolds none = new SheetFolds();
        due("without a part", none.press(5), false);
        stays(none, 3, 1, 0, 0);
        due("without a part", none.has(3), 0);
    }

    /** The next seed, by the document's words. */
    private static int next(int seed) {
        BigInteger x = BigInteger.valueOf(1103515245).multiply(BigInteger.valueOf(seed)).add(BigInteger.valueOf(12345));
        return x.mod(BigInteger.TWO.pow(31)).intValueExact();
    }

    private static void chance() {
        terms("A DRAW of m: x (the seed) becomes (1103515245 x + 12345) mod 2 to the 31; floor(x / 64) mod m.");
        for (int seed : new int[] {0, 1, 2, 63, 64, 12345, 1 << 30, Integer.MAX_VALUE - 1, Integer.MAX_VALUE}) {
            SheetFolds x = of(CROSS);
            x.seed(seed);
            int then = next(seed);
            due("seed " + seed, x.chance(1), 1 << then / 64 % 3);
            due("the next seed", x.has(7), then);
            x.lay(1 << next(then) / 64 % 3);
            due("it is opened, since it is made", x.chance(1), 0);
            due("the seed behind that", x.has(7), next(then));
        }
        terms("by the seed n times: a DRAW of the BENDS (and 1): that one is opened, if it is MADE, else MADE, if it can be.");
        SheetFolds row = of(CROSS);
        int seed = 1;
        int made = 0;
        for (int i = 0; i < 40; i++) {
            seed = next(seed);
            made ^= 1 << seed / 64 % 3;
        }
        due("forty times", row.chance(40), made);
        due("forty seeds on", row.has(7), seed);
        due("one act", row.has(6), 1);
        due("undone, all of them", row.undo(), true);
        due("has(4)", row.has(4), 0);
        due("the seed stays", row.has(7), seed);
        SheetFolds lacking = of(CROSS.replace("tool 6", "tool 5"));
        due("it can't be made", lacking.chance(40), 0);
        due("an act, all the same", lacking.has(6), 1);
        lacking.lay(7);
        due("it is opened without tools", Integer.bitCount(lacking.chance(1)), 2);
        SheetFolds heap = of(HEAP);
        heap.lay(4);
        heap.seed(4);
        due("it can't be opened", heap.chance(1), 4);
        SheetFolds one = of("sheet thick 1 base 6 6;tool 6;flange a on base north from 0 wide 6 high 1 up round 1;");
        due("a draw of one, an odd number of times", one.chance(39), 1);
        due("and an even one", one.chance(40), 1);
        chanceRefused();
    }

    private static void chanceRefused() {
        says(46, "n times by the seed (1 .. 40), one ACT: BENDS that are MADE then, as bits; NONE, refused (3), when n can't be,"
                + " or there are no BENDS.");
        SheetFolds x = of(CROSS);
        int refused = 0;
        for (int n : outside(1, 40)) {
            due("chance(" + n + ")", x.chance(n), NONE);
            refused++;
            stays(x, 3, refused, 0, 0);
            due("the seed stays", x.has(7), 1);
        }
        SheetFolds alone = of(SHEET);
        due("no bends", alone.chance(1), NONE);
        stays(alone, 3, 1, 0, 0);
        due("the seed stays", alone.has(7), 1);
        SheetFolds none = new SheetFolds();
        due("without a part", none.chance(1), NONE);
        stays(none, 3, 1, 0, 0);
        due("the seed stays", none.has(7), 1);
    }

    private static void undo() {
        terms("The last 20 can be undone.");
        SheetFolds x = of(ROLL);
        for (int h = 31; h <= 50; h++) {
            x.press(h);
        }
        due("twenty", x.has(6), 20);
        x.press(51);
        due("twenty of 21", x.has(6), 20);
        for (int n = 1; n <= 20; n++) {
            due("undo " + n, x.undo(), true);
            due("has(3)", x.has(3), 51 - n);
            due("has(6)", x.has(6), 20 - n);
        }
        due("the first one can't be", x.undo(), false);
        due("has(3)", x.has(3), 31);
        for (int h = 1; h <= 30; h++) {
            x.press(h);
        }
        for (int n = 1; n <= 5; n++) {
            x.undo();
        }
        due("15 are left", x.has(6), 15);
        for (int h = 61; h <= 70; h++) {
            x.press(h);
        }
        for (int n = 1; n <= 10; n++) {
            x.undo();
        }
        due("behind the new ones the old ones", x.has(3), 25);
        for (int n = 1; n <= 10; n++) {
            due("an old one", x.undo(), true);
        }
        due("twenty ahead of 70", x.has(3), 15);
        due("no more", x.undo(), false);
        says(47, "The latest ACT is undone (the seed, what is SEEN stay): true; false, refused (4), when none can be.");
        undoEach();
        SheetFolds none = new SheetFolds();
        due("without a part", none.undo(), false);
        stays(none, 4, 1, 0, 0);
        SheetFolds refusedAct = of(ROLL);
        refusedAct.bend(9);
        refusedAct.turn(9);
        refusedAct.press(0);
        due("a refused call is no act", refusedAct.undo(), false);
        stays(refusedAct, 4, 1, 0, 0);
    }

    private static void undoEach() {
        SheetFolds x = of(ROLL);
        x.bend(1);
        x.open(1);
        x.turn(2);
        x.allow(1, 5);
        x.allow(9, 5);
        x.press(2);
        x.follow(2);
        x.lay(7);
        x.chance(1);
        put(x, rows(1, 9));
        x.see();
        x.seed(99);
        int[][] ahead = {{7, 0, 5, 5, 2}, {3, 0, 5, 5, 2}, {0, 0, 5, 5, 2}, {0, 0, 5, 5, 30}, {0, 0, 5, 14, 30},
            {0, 0, 0, 14, 30}, {0, 1, 0, 14, 30}, {1, 1, 0, 14, 30}, {0, 1, 0, 14, 30}};
        for (int n = 0; n < ahead.length; n++) {
            due("undo " + n, x.undo(), true);
            due("made", x.has(4), ahead[n][0]);
            due("the way", x.flange(2, 5), ahead[n][1]);
            due("as told", x.allowance(1), ahead[n][2]);
            due("not told", x.allowance(9), ahead[n][3]);
            due("the press", x.has(3), ahead[n][4]);
            due("the seed", x.has(7), 99);
            due("seen", x.has(5), 1);
            due("left", x.has(6), ahead.length - 1 - n);
        }
        due("none is left", x.undo(), false);
        due("status(4)", x.status(4), 1);
        due("orders, as ahead of all", x.orders(), 4);
        SheetFolds y = of(ROLL);
        y.follow(3);
        y.tallest();
        y.lay(1);
        y.turn(2);
        y.mends();
        y.allow(1, 9);
        y.flatBox(0);
        y.press(2);
        y.orders();
        for (int n = 0; n < 5; n++) {
            due("undo", y.undo(), true);
        }
        alike("all undone", y, of(ROLL));
    }

    private static void seed() {
        says(48, "The seed: true; false, refused (5), when it is below 0.");
        SheetFolds x = new SheetFolds();
        due("the least", x.seed(0), true);
        due("has(7)", x.has(7), 0);
        due("the greatest", x.seed(Integer.MAX_VALUE), true);
        due("has(7)", x.has(7), Integer.MAX_VALUE);
        due("below 0", x.seed(-1), false);
        due("as far as can be", x.seed(Integer.MIN_VALUE), false);
        due("it stays", x.has(7), Integer.MAX_VALUE);
        due("status(5)", x.status(5), 2);
        due("the like once more", x.seed(Integer.MAX_VALUE), true);
        SheetFolds y = of(ROLL);
        y.seed(5);
        due("no act", y.has(6), 0);
    }

    private static void status() {
        says(49, "How many were refused: 0 feed(), end(); 1 part(); 2 bend(), open(), turn(), lay(); 3 follow(), allow(), press(),"
                + " chance(); 4 undo(); 5 seed(), see(). NONE for others.");
        SheetFolds x = new SheetFolds();
        for (int what = 0; what <= 5; what++) {
            due("none yet", x.status(what), 0);
        }
        for (int n = 0; n < 60; n++) {
            x.feed(0x20202020, 0x20202020, 0x20202020, 0x20202020, 0x20202020);
        }
        Runnable[] refused = {() -> x.feed(0, 0, 0, 0, 0), () -> x.end(-1), x::part, () -> x.bend(1), () -> x.open(1),
            () -> x.turn(1), () -> x.lay(0), () -> x.follow(1), () -> x.allow(1, 1), () -> x.press(1), () -> x.chance(1),
            x::undo, () -> x.seed(-1), x::see};
        int[] kinds = {0, 0, 1, 2, 2, 2, 2, 3, 3, 3, 3, 4, 5, 5};
        int[] counted = new int[6];
        for (int i = 0; i < refused.length; i++) {
            refused[i].run();
            counted[kinds[i]]++;
            for (int what = 0; what <= 5; what++) {
                due("behind " + (i + 1) + " of them status(" + what + ")", x.status(what), counted[what]);
            }
        }
        put(x, ROLL);
        x.part();
        x.bend(1);
        x.fits(0, 0);
        x.why(9, 9);
        for (int what = 0; what <= 5; what++) {
            due("a part, an act, a question: status(" + what + ")", x.status(what), counted[what]);
        }
        for (int what : outside(0, 5)) {
            due("status(" + what + ")", x.status(what), NONE);
        }
    }
}
