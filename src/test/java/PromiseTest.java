/** For each promise of the document what it asks, worked out by hand: usual inputs, edges, wrong ones. */
public final class PromiseTest extends Check {
    private static final String TRAY = "sheet thick 2 base 20 10;tool 10;tool 5;allow 1 3;"
            + "flange a on base north from 0 wide 10 high 6 up round 1;"
            + "flange b on base south from 5 wide 10 high 4 down round 2;"
            + "flange c on a north from 0 wide 5 high 4 up round 1;";
    /** Three bends that roll up over the base: the third one's punch would go down through it. */
    private static final String ROLL = "sheet thick 1 base 6 6;tool 6;allow 1 0;"
            + "flange a on base north from 0 wide 6 high 4 up round 1;"
            + "flange c on a north from 0 wide 6 high 4 up round 1;"
            + "flange d on c north from 0 wide 6 high 3 up round 1;";
    /** Three bends of which none hinders another one. */
    private static final String CROSS = "sheet thick 1 base 6 6;tool 4;tool 3;tool 3;tool 6;"
            + "flange a on base north from 0 wide 4 high 2 up round 1;"
            + "flange b on base east from 0 wide 6 high 2 down round 1;"
            + "flange c on base south from 0 wide 6 high 2 up round 9;";
    /** The third flange lies upon the second one when laid flat. */
    private static final String HEAP = "sheet thick 1 base 10 10;tool 4;allow 1 0;allow 2 1;"
            + "flange a on base north from 0 wide 4 high 8 up round 1;"
            + "flange b on base north from 6 wide 4 high 8 up round 1;"
            + "flange c on a east from 0 wide 4 high 6 up round 2;";

    /** A bridge over the fourth flange stands on the line of the fifth bend. */
    private static final String BRIDGE = "sheet thick 1 base 10 10;tool 10;tool 4;tool 15;allow 1 0;press 1;"
            + "flange b on base west from 0 wide 10 high 5 up round 1;"
            + "flange c on b west from 0 wide 10 high 20 up round 1;"
            + "flange d on c west from 0 wide 10 high 5 up round 1;"
            + "flange p on base east from 2 wide 4 high 15 down round 1;"
            + "flange a on p north from 0 wide 15 high 3 up round 1;";
    /** The third bend goes the wrong way, into the fifth flange; the other way there is room for 4. */
    private static final String HOOK = "sheet thick 1 base 6 6;tool 6;allow 1 0;press 4;"
            + "flange a on base north from 0 wide 6 high 4 up round 1;"
            + "flange c on a north from 0 wide 6 high 4 up round 1;"
            + "flange d on c north from 0 wide 6 high 2 down round 1;"
            + "flange s on base south from 0 wide 6 high 5 up round 1;"
            + "flange t on s south from 0 wide 6 high 3 up round 1;"
            + "flange e on base east from 0 wide 6 high 1 up round 1;"
            + "flange f on base west from 0 wide 6 high 1 up round 1;"
            + "flange g on f west from 0 wide 6 high 1 up round 1;";

    /** The fifth flange lies over the base when laid flat, and in the plane of the first punch with bend 4. */
    private static final String LOOP = "sheet thick 1 base 6 6;tool 6;tool 3;tool 2;allow 1 0;allow 2 1;press 1;"
            + "flange f on base north from 0 wide 6 high 3 up round 2;"
            + "flange q on f east from 0 wide 3 high 2 up round 1;"
            + "flange r on q south from 0 wide 2 high 1 up round 1;"
            + "flange s on r south from 0 wide 2 high 2 up round 1;"
            + "flange g on s west from 0 wide 2 high 2 up round 1;";
    /** Rolls up so low that the third punch has room for 1. */
    private static final String LOW = ROLL.replace("high 4 up round 1;flange c", "high 1 up round 1;flange c")
            .replace("high 3", "high 1");
    /** As HOOK, but the eighth flange is in the way of the third bend until it is bent up itself. */
    private static final String KNOT = "sheet thick 1 base 6 6;tool 6;tool 4;tool 2;allow 1 0;press 3;"
            + "flange a on base north from 0 wide 6 high 4 up round 1;"
            + "flange c on a north from 0 wide 6 high 4 up round 1;"
            + "flange d on c north from 0 wide 4 high 2 down round 1;"
            + "flange s on base south from 0 wide 6 high 5 up round 1;"
            + "flange t on s south from 0 wide 6 high 3 up round 1;"
            + "flange e on base east from 1 wide 2 high 3 up round 1;"
            + "flange f on e east from 0 wide 2 high 2 up round 1;"
            + "flange m on f east from 0 wide 2 high 2 up round 1;";
    /** Parts with something of their own each; RandomTest looks at all of them, too. */
    static final String[] PARTS = {TRAY, ROLL, CROSS, HEAP, BRIDGE, HOOK, LOOP, LOW, KNOT, mirrored(HOOK)};

    private static String mirrored(String text) {
        return text.replace("down", "over").replace("up", "down").replace("over", "up");
    }

    /** Eight bends of which none hinders another one. */
    private static String star() {
        StringBuilder text = new StringBuilder("sheet thick 1 base 60 60;tool 6;");
        String[] sides = {"north", "east", "south", "west"};
        for (int i = 0; i < 8; i++) {
            text.append("flange ").append((char) ('a' + i)).append(" on base ").append(sides[i % 4]);
            text.append(" from ").append(i / 4 * 20).append(" wide 6 high 4 up round 1;");
        }
        return text.toString();
    }

    private static void newObject() {
        SheetFolds x = new SheetFolds();
        for (int what = 0; what < 7; what++) {
            due("has(" + what + ")", x.has(what), 0);
        }
        due("has(7)", x.has(7), 1);
        due("NONE", SheetFolds.NONE, -1);
        due("NOTHING", SheetFolds.NOTHING, -1000000);
    }

    private static void feed() {
        SheetFolds x = new SheetFolds();
        for (int n = 1; n <= 60; n++) {
            due("feed " + n, x.feed(0x20202020, 0x0a0a0a0a, 0x20202020, 0x20202020, 0x20202020), 20 * n);
        }
        due("a 61st feed", x.feed(0, 0, 0, 0, 0), NONE);
        due("status(0)", x.status(0), 1);
        x.end(1181);
        due("a feed beyond 1200", x.feed(0, 0, 0, 0, 0), NONE);
        x.end(1180);
        due("a feed up to 1200", x.feed(0, 0, 0, 0, 0), 1200);
        SheetFolds y = new SheetFolds();
        y.feed(0x7a7a7a80, 0xffffffff, 0, 0, 0);
        y.end(4);
        due("bytes highest first", y.part(), NONE);
        due("their fault", y.fault(1), 0);
    }

    private static void end() {
        SheetFolds x = new SheetFolds();
        due("end(0)", x.end(0), true);
        due("end(1)", x.end(1), false);
        due("end(-1)", x.end(-1), false);
        due("status(0)", x.status(0), 2);
        x.feed(1, 2, 3, 4, 5);
        due("end(21)", x.end(21), false);
        due("end(20)", x.end(20), true);
        due("end(7)", x.end(7), true);
        due("end(8)", x.end(8), false);
        due("feed behind 7", x.feed(1, 2, 3, 4, 5), 27);
    }

    private static void part() {
        SheetFolds x = of(TRAY);
        x.bend(1);
        x.seed(77);
        put(x, "\1\0\7");
        x.see();
        put(x, "sheet");
        due("a text that ends too soon", x.part(), NONE);
        due("status(1)", x.status(1), 1);
        due("all stays: flanges", x.has(0), 4);
        due("all stays: made", x.has(4), 1);
        due("all stays: seen", x.has(5), 1);
        due("all stays: acts", x.has(6), 1);
        due("the tape goes", x.feed(0, 0, 0, 0, 0), 20);
        x.end(0);
        due("orders of the one", x.orders(), 2);
        put(x, CROSS);
        due("another part", x.part(), 8);
        due("orders of the other", x.orders(), 6);
        due("made", x.has(4), 0);
        due("seen", x.has(5), 0);
        due("acts", x.has(6), 0);
        due("the seed stays", x.has(7), 77);
        due("the tape is empty", x.end(1), false);
        due("the last press", of(SHEET + "press 7;press 99;").has(3), 99);
        SheetFolds y = of(SHEET + "allow 1 3;allow 2 4;allow 1 60;");
        due("the last allow", y.allowance(1), 60);
        due("the other allow", y.allowance(2), 4);
    }

    private static void faults() {
        due("ahead of any", new SheetFolds().fault(0), 0);
        due("ahead of any, place", new SheetFolds().fault(1), NONE);
        due("fault(2)", new SheetFolds().fault(2), NONE);
        due("fault(-1)", new SheetFolds().fault(-1), NONE);
        faulty("", 1, 0);
        faulty(" \n ", 1, 3);
        faulty("shee", 1, 0);
        faulty("sheets thick", 1, 0);
        faulty("xheet thick 1 base 9 8;", 1, 0);
        faulty("Sheet", 1, 0);
        faulty(" \nsheet\nthick 1\n\nbase 9 8 ; ", 0, NONE);
        faulty("sheet thick 01 base 60 60;", 0, NONE);
        faulty("sheetthick 1", 1, 0);
        faulty("sheet thick1 base", 1, 11);
        faulty("sheet thick 1base", 1, 13);
        faulty("sheet thick 10 base", 2, 12);
        faulty("sheet thick 100", 1, 14);
        faulty("sheet thick x", 1, 12);
        faulty("sheet thick 1 base 0 1;", 2, 19);
        faulty("sheet thick 1 base 1 61;", 2, 21);
        faulty("sheet thick 1 base 61 1;", 2, 19);
        faulty("sheet thick 9 base 1 1;press 1;tool 1;tool 60;", 0, NONE);
        faulty("sheet thick 1 base 9 8", 1, 22);
        faulty("sheet thick 1 base 9 8  ", 1, 24);
        faulty(SHEET + ";", 1, 23);
        faulty(SHEET + SHEET, 1, 23);
        faulty(SHEET + "tool 5\t;", 1, 29);
        faulty(SHEET + "tool 5 5;", 1, 30);
        faulty(SHEET + "tools 5;", 1, 23);
        faulty(SHEET + "tool -5;", 1, 28);
        faulty(SHEET + "tool 61;", 2, 28);
        faulty(SHEET + "tool 999;", 1, 30);
        faulty(SHEET + "press 00;", 2, 29);
        faulty(SHEET + "press 99;", 0, NONE);
        faulty(SHEET + "allow 0 5;", 2, 29);
        faulty(SHEET + "allow 9 60;allow 9 0;", 0, NONE);
        flangeFaults();
        tooMany();
        SheetFolds cut = new SheetFolds();
        put(cut, SHEET);
        cut.end(22);
        due("a semicolon behind the end", cut.part(), NONE);
        due("its place", cut.fault(1), 22);
    }

    private static void flangeFaults() {
        String a = SHEET + "flange a on base north from 2 wide 3 high 4 up round 1;";
        int n = a.length();
        faulty(SHEET + "flange 5", 1, 30);
        faulty(SHEET + "flange abcd on", 1, 37);
        faulty(SHEET + "flange abcde on", 1, 34);
        faulty(SHEET + "flange north on", 1, 30);
        faulty(SHEET + "flange sheet on", 1, 30);
        faulty(SHEET + "flange round on", 1, 30);
        faulty(SHEET + "flange a an base", 1, 32);
        faulty(SHEET + "flange northy on", 1, 34);
        faulty(SHEET + "flange nort of", 1, 35);
        faulty(SHEET + "flange a on a ", 3, 35);
        faulty(SHEET + "flange a on up ", 1, 35);
        faulty(SHEET + "flange a on basex ", 1, 39);
        faulty(SHEET + "flange aB", 1, 31);
        faulty(SHEET + "flange a on base north from 59 wide 1", 4, 59);
        faulty(SHEET + "flange a on base north from 60 wide 1", 2, 51);
        faulty(SHEET + "flange a on base top from", 1, 40);
        faulty(SHEET + "flange a on base north from 8 wide 1 high 61", 2, 65);
        faulty(SHEET + "flange a on base north from 8 wide 1 high 1 upper", 1, 67);
        faulty(SHEET + "flange a on base north from 5 wide 61", 2, 58);
        faulty(SHEET + "flange a on base north from 8 wide 1 high 0", 2, 65);
        faulty(SHEET + "flange a on base north from 8 wide 1 high 60 up round 10", 2, 77);
        faulty(SHEET + "flange a on base east from 0 wide 9", 4, 57);
        faulty(SHEET + "flange a on base east from 0 wide 8 high 60 down round 9;", 0, NONE);
        faulty(a + "flange a on", 3, n + 7);
        faulty(a + "flange ab on aa", 3, n + 13);
        faulty(a + "flange b on a south", 4, n + 14);
        faulty(a + "flange b on a north from 0 wide 4", 4, n + 32);
        faulty(a + "flange b on a east from 1 wide 3 high 1 up round 1;", 0, NONE);
        faulty(a + "flange b on a west from 1 wide 4", 4, n + 31);
        faulty(a + "flange b on base north from 0 wide 3", 4, n + 35);
        faulty(a + "flange b on base north from 0 wide 2 high 1 up round 1;", 0, NONE);
        faulty(a + "flange b on base north from 5 wide 4 high 1 up round 1;", 0, NONE);
        faulty(a + "flange b on base south from 2 wide 3 high 1 up round 1;", 0, NONE);
    }

    private static void tooMany() {
        StringBuilder tools = new StringBuilder(SHEET);
        StringBuilder flanges = new StringBuilder(SHEET);
        for (int i = 0; i < 8; i++) {
            tools.append("tool 60;");
            flanges.append("flange f").append((char) ('a' + i)).append(" on base north from ").append(i);
            flanges.append(" wide 1 high 1 up round 1;");
        }
        faulty(tools.toString(), 0, NONE);
        faulty(tools + "tool;", 5, tools.length());
        faulty(flanges.toString(), 0, NONE);
        faulty(flanges + " flange up", 5, flanges.length() + 1);
    }

    private static void has() {
        SheetFolds x = of(TRAY + "press 12;");
        int[] want = {4, 2, 2, 12, 0, 0, 0, 1};
        for (int what = 0; what < 8; what++) {
            due("has(" + what + ")", x.has(what), want[what]);
        }
        due("has(8)", x.has(8), NONE);
        due("has(-1)", x.has(-1), NONE);
        due("press without one", of(SHEET).has(3), 30);
    }

    private static void letter() {
        SheetFolds x = of(SHEET + "flange az on base north from 0 wide 1 high 1 up round 1;"
                + "flange wxyz on az north from 0 wide 1 high 1 up round 1;");
        due("letter(1, 0)", x.letter(1, 0), 1);
        due("letter(1, 1)", x.letter(1, 1), 26);
        due("letter(1, 2)", x.letter(1, 2), 0);
        due("letter(2, 0)", x.letter(2, 0), 23);
        due("letter(2, 3)", x.letter(2, 3), 26);
        due("letter(0, 0)", x.letter(0, 0), 0);
        due("letter(0, 3)", x.letter(0, 3), 0);
        due("letter(1, 4)", x.letter(1, 4), NONE);
        due("letter(1, -1)", x.letter(1, -1), NONE);
        due("letter(3, 0)", x.letter(3, 0), NONE);
        due("letter(-1, 0)", x.letter(-1, 0), NONE);
    }

    private static void flange() {
        SheetFolds x = of(TRAY);
        int[][] want = {{0, 0, 0, 10, 6, 1, 1, 1, 0, 9}, {0, 2, 5, 10, 4, 0, 2, 0, 0, 8}, {1, 0, 0, 5, 4, 1, 1, 0, 1, 16}};
        for (int f = 1; f <= 3; f++) {
            for (int what = 0; what < 10; what++) {
                due("flange(" + f + ", " + what + ")", x.flange(f, what), want[f - 1][what]);
            }
        }
        due("of the base", x.flange(0, 0), NONE);
        due("of none", x.flange(4, 0), NONE);
        due("what 10", x.flange(1, 10), NONE);
        due("what -1", x.flange(1, -1), NONE);
        SheetFolds roll = of(ROLL);
        due("all that hang on it", roll.flange(1, 7), 2);
        due("all on which it hangs", roll.flange(3, 8), 2);
        due("their lengths", roll.flange(3, 9), 11);
    }

    private static void tool() {
        SheetFolds x = of(TRAY);
        due("tool(0)", x.tool(0), 10);
        due("tool(1)", x.tool(1), 5);
        due("tool(2)", x.tool(2), NONE);
        due("tool(-1)", x.tool(-1), NONE);
    }

    private static void allowance() {
        SheetFolds x = of(TRAY);
        int[] want = {NONE, 3, 4, 6, 7, 9, 11, 12, 14, 15, NONE};
        for (int r = 0; r <= 10; r++) {
            due("allowance(" + r + ")", x.allowance(r), want[r]);
        }
        due("without a part", new SheetFolds().allowance(1), NONE);
    }

    private static void flat() {
        SheetFolds x = of("sheet thick 1 base 9 8;allow 1 2;"
                + "flange a on base east from 1 wide 5 high 6 up round 1;"
                + "flange b on a south from 2 wide 3 high 4 down round 1;"
                + "flange c on base west from 3 wide 2 high 7 up round 1;");
        int[][] want = {{0, 0, 9, 8}, {11, 1, 17, 6}, {13, -5, 16, -1}, {-9, 3, -2, 5}};
        int[][] zones = {{9, 1, 11, 6}, {13, -1, 16, 1}, {-2, 3, 0, 5}};
        for (int what = 0; what < 4; what++) {
            for (int f = 0; f < 4; f++) {
                due("flat(" + f + ", " + what + ")", x.flat(f, what), want[f][what]);
            }
            for (int z = 0; z < 3; z++) {
                due("flat(" + (9 + z) + ", " + what + ")", x.flat(9 + z, what), zones[z][what]);
            }
        }
        x.lay(7);
        due("as laid flat, when folded", x.flat(1, 0), 11);
        for (int piece : new int[] {-1, 4, 8, 12, 16, 17}) {
            due("flat(" + piece + ", 0)", x.flat(piece, 0), NOTHING);
        }
        due("what 4", x.flat(0, 4), NOTHING);
        due("what -1", x.flat(0, -1), NOTHING);
    }

    private static void flatBox() {
        SheetFolds x = of(TRAY);
        int[] want = {0, -8, 20, 26, 200 + 60 + 40 + 20 + 30 + 40 + 15};
        for (int what = 0; what < 5; what++) {
            due("flatBox(" + what + ")", x.flatBox(what), want[what]);
        }
        due("flatBox(5)", x.flatBox(5), NOTHING);
        due("flatBox(-1)", x.flatBox(-1), NOTHING);
        due("without a part", new SheetFolds().flatBox(4), NOTHING);
    }

    private static void overlap() {
        SheetFolds x = of(HEAP);
        due("overlap(NONE, 0)", x.overlap(NONE, 0), 1);
        due("overlap(0, 0)", x.overlap(0, 0), 2);
        due("overlap(0, 1)", x.overlap(0, 1), 3);
        due("overlap(0, 2)", x.overlap(0, 2), NONE);
        due("overlap(1, 0)", x.overlap(1, 0), NONE);
        due("overlap(-2, 0)", x.overlap(-2, 0), NONE);
        x.allow(1, 2);
        x.allow(2, 3);
        due("zones, too", x.overlap(NONE, 0), 2);
        due("by the less number", x.overlap(0, 0), 2);
        due("the zone", x.overlap(0, 1), 3);
        due("the second", x.overlap(1, 1), 11);
        due("none", of(TRAY).overlap(NONE, 0), 0);
        due("without a part", new SheetFolds().overlap(NONE, 0), NONE);
        SheetFolds y = of(HEAP);
        y.allow(1, 2);
        y.allow(2, 0);
        due("a zone without length shares nothing", y.overlap(NONE, 0), 1);
        SheetFolds z = of(HEAP.replace("wide 4 high 6", "wide 4 high 4").replace("allow 2 1", "allow 2 0")
                + "flange d on c east from 0 wide 4 high 1 up round 2;");
        due("not within another piece, either", z.overlap(NONE, 0), 2);
        due("the second pair", z.overlap(1, 1), 4);
        SheetFolds loop = of(LOOP);
        due("over the base", loop.overlap(0, 0), 0);
        due("flange 5", loop.overlap(0, 1), 5);
        SheetFolds zones = of("sheet thick 1 base 10 10;allow 1 0;allow 3 9;"
                + "flange a on base north from 0 wide 4 high 8 up round 1;"
                + "flange c on a east from 0 wide 4 high 4 up round 1;"
                + "flange d on c east from 0 wide 4 high 1 up round 1;"
                + "flange b on base north from 6 wide 4 high 8 up round 3;");
        due("c and d in the zone of b, no zone in it", zones.overlap(NONE, 0), 2);
        due("d", zones.overlap(1, 0), 3);
        due("the zone of b", zones.overlap(1, 1), 12);
    }

    private static void space() {
        SheetFolds x = of(TRAY);
        due("not made", x.space(3, 1), 22);
        due("not made", x.space(3, 4), 26);
        x.lay(7);
        int[][] want = {{0, 0, 0, 20, 10, 0}, {0, 10, 0, 10, 10, 6}, {5, 0, -4, 15, 0, 0}, {0, 6, 6, 5, 10, 6}};
        for (int f = 0; f < 4; f++) {
            for (int what = 0; what < 6; what++) {
                due("space(" + f + ", " + what + ")", x.space(f, what), want[f][what]);
            }
        }
        due("of none", x.space(4, 0), NOTHING);
        due("of -1", x.space(-1, 0), NOTHING);
        due("what 6", x.space(0, 6), NOTHING);
        due("what -1", x.space(0, -1), NOTHING);
    }

    private static void spaceBox() {
        SheetFolds x = of(TRAY);
        due("flat x", x.spaceBox(0), 20);
        due("flat y", x.spaceBox(1), 34);
        due("flat z", x.spaceBox(2), 0);
        x.lay(7);
        due("folded x", x.spaceBox(0), 20);
        due("folded y", x.spaceBox(1), 10);
        due("folded z", x.spaceBox(2), 10);
        due("spaceBox(3)", x.spaceBox(3), NOTHING);
        due("spaceBox(-1)", x.spaceBox(-1), NOTHING);
        due("without a part", new SheetFolds().spaceBox(0), NOTHING);
        StringBuilder row = new StringBuilder("sheet thick 1 base 1 1;allow 1 0;");
        for (int f = 1; f <= 8; f++) {
            row.append("flange ").append((char) ('a' + f)).append(" on ");
            row.append(f == 1 ? "base" : String.valueOf((char) ('a' + f - 1)));
            row.append(" north from 0 wide 1 high 10 up round 1;");
        }
        due("nine flanges", of(row.toString()).spaceBox(1), 81);
    }

    private static void gap() {
        SheetFolds x = of(TRAY);
        due("across the zone", x.gap(0, 1), 3);
        due("the same", x.gap(1, 0), 3);
        due("b and c", x.gap(2, 3), 26);
        x.lay(7);
        due("at the bend", x.gap(0, 1), 0);
        due("b and c, folded", x.gap(2, 3), 12);
        due("itself", x.gap(2, 2), 0);
        due("of none", x.gap(0, 4), NONE);
        due("of -1", x.gap(-1, 0), NONE);
    }

    private static void normal() {
        SheetFolds x = of(TRAY);
        due("not made", x.normal(3), 3);
        x.lay(7);
        int[] want = {3, -2, -2, -3};
        for (int f = 0; f < 4; f++) {
            due("normal(" + f + ")", x.normal(f), want[f]);
        }
        due("of none", x.normal(4), 0);
        due("of -1", x.normal(-1), 0);
        SheetFolds y = of("sheet thick 1 base 6 6;flange a on base east from 0 wide 6 high 2 up round 1;"
                + "flange b on base west from 0 wide 6 high 2 up round 1;"
                + "flange c on base north from 0 wide 6 high 2 down round 1;");
        y.lay(7);
        due("east, up", y.normal(1), -1);
        due("west, up", y.normal(2), 1);
        due("north, down", y.normal(3), 2);
    }

    private static void clash() {
        SheetFolds x = of(HEAP);
        due("flat", x.clash(0, NONE), 1);
        due("the pair", x.clash(0, 0), 23);
        due("no second one", x.clash(0, 1), NONE);
        due("k -2", x.clash(0, -2), NONE);
        due("folded", x.clash(4, NONE), 0);
        due("no such state", x.clash(8, NONE), NONE);
        due("state -1", x.clash(-1, NONE), NONE);
        due("without a part", new SheetFolds().clash(0, NONE), NONE);
        SheetFolds deep = of(ROLL.replace("high 3", "high 5"));
        due("through the base", deep.clash(7, NONE), 1);
        due("base and d", deep.clash(7, 0), 3);
        due("onto the base is a border", of(ROLL.replace("high 3", "high 4")).clash(7, NONE), 0);
    }

    private static void meets() {
        SheetFolds x = of(ROLL);
        due("the base", x.meets(3, 3), 1);
        due("nothing", x.meets(3, 0), 0);
        due("it is made", x.meets(3, 4), NONE);
        due("no such bend", x.meets(4, 0), NONE);
        due("the base's", x.meets(0, 0), NONE);
        due("no such state", x.meets(1, 8), NONE);
        due("state -1", x.meets(1, -1), NONE);
        x.press(4);
        due("just to the base", x.meets(3, 3), 0);
        due("what hangs over", of(ROLL.replace("high 3", "high 5")).meets(1, 6), 8);
        due("what stands on the line", of(BRIDGE).meets(5, 7), 8);
        due("what stands in its plane", of(LOOP).meets(1, 8), 32);
    }

    private static void tools() {
        SheetFolds x = of(CROSS + "tool 1;");
        due("tools(1, 0)", x.tools(1, 0), 1);
        due("tools(1, 1)", x.tools(1, 1), 1);
        due("the fewest", x.tools(2, 0), 8);
        due("what 2", x.tools(1, 2), NONE);
        due("what -1", x.tools(1, -1), NONE);
        due("of the base", x.tools(0, 0), NONE);
        due("of none", x.tools(4, 0), NONE);
        SheetFolds y = of(CROSS.replace("tool 6;", "tool 3;"));
        due("of like ones the least", y.tools(2, 0), 6);
        due("two of them", y.tools(2, 1), 2);
        SheetFolds z = of(CROSS.replace("tool 6;", "").replace("tool 3;tool 3;", "tool 3;"));
        due("none do", z.tools(2, 0), NONE);
        due("how many", z.tools(2, 1), NONE);
    }

    private static void why() {
        SheetFolds x = of(ROLL);
        due("clear", x.why(1, 0), 0);
        due("made", x.why(1, 1), 1);
        due("the punch", x.why(3, 3), 3);
        due("no tools", of(ROLL.replace("tool 6", "tool 5")).why(1, 0), 2);
        due("made goes ahead of tools", of(ROLL.replace("tool 6", "tool 5")).why(1, 1), 1);
        due("a clash", of(ROLL.replace("high 3", "high 5") + "press 4;").why(3, 3), 4);
        due("no such bend", x.why(4, 0), NONE);
        due("no such state", x.why(1, 8), NONE);
        due("state -1", x.why(1, -1), NONE);
    }

    private static void orders() {
        SheetFolds x = of(ROLL);
        due("four", x.orders(), 4);
        x.lay(7);
        due("all made", x.orders(), 1);
        x.lay(3);
        due("none", x.orders(), 0);
        due("no bends", of(SHEET).orders(), 1);
        due("without a part", new SheetFolds().orders(), NONE);
        SheetFolds y = of(BRIDGE);
        y.lay(7);
        due("the lowest punch meets what stands on the line", y.orders(), 1);
        SheetFolds z = of(ROLL.replace("high 3", "high 5"));
        due("d would go through the base", z.orders(), 0);
        SheetFolds low = of(LOW);
        low.lay(3);
        due("a punch of 30", low.orders(), 0);
        low.press(1);
        due("a punch of 1", low.orders(), 1);
        low.press(2);
        due("a punch of 2", low.orders(), 0);
        SheetFolds less = of(ROLL);
        less.lay(3);
        less.spaceBox(0);
        put(less, "sheet thick 1 base 6 6;tool 6;flange a on base south from 0 wide 6 high 1 up round 1;"
                + "flange b on base east from 0 wide 6 high 1 up round 1;");
        less.part();
        due("what lay there ahead of another part is gone", less.orders(), 2);
    }

    private static void order() {
        SheetFolds x = of(ROLL);
        int[] want = {NONE, 1, 3, 2, NONE};
        for (int k = -1; k < 4; k++) {
            due("order(" + k + ")", x.order(k), want[k + 1]);
        }
        x.lay(1);
        due("from there", x.order(0), 3);
        due("from there", x.order(1), 2);
        due("no third", x.order(2), NONE);
        x.lay(3);
        due("no order", x.order(0), NONE);
        due("the eighth of eight", of(star()).order(7), 8);
        due("no ninth", of(star()).order(8), NONE);
    }

    private static void mayBeLast() {
        SheetFolds x = of(ROLL);
        due("a", x.mayBeLast(1), 1);
        due("c", x.mayBeLast(2), 1);
        due("d", x.mayBeLast(3), 0);
        due("of none", x.mayBeLast(4), NONE);
        due("of the base", x.mayBeLast(0), NONE);
        x.lay(3);
        due("made", x.mayBeLast(1), NONE);
        due("no order", x.mayBeLast(3), 0);
    }

    private static void ahead() {
        SheetFolds x = of(ROLL);
        due("not in each", x.ahead(3, 1), 0);
        due("both one", x.ahead(1, 1), NONE);
        due("of none", x.ahead(1, 4), NONE);
        due("of the base", x.ahead(0, 1), NONE);
        x.lay(1);
        due("in each", x.ahead(3, 2), 1);
        due("the other way", x.ahead(2, 3), 0);
        due("one is made", x.ahead(1, 2), NONE);
        x.lay(0);
        x.press(4);
        due("any order goes", x.ahead(3, 2), 0);
        SheetFolds y = of(ROLL.replace("tool 6", "tool 5"));
        due("no order", y.ahead(1, 2), NONE);
    }

    private static void reached() {
        SheetFolds x = of(ROLL);
        int[] want = {8, 1, 3, 0, NONE};
        for (int what = 0; what < 5; what++) {
            due("reached(" + what + ")", x.reached(what), want[what]);
        }
        due("reached(-1)", x.reached(-1), NONE);
        x.lay(3);
        int[] then = {1, 1, 3, 4};
        for (int what = 0; what < 4; what++) {
            due("at the dead end reached(" + what + ")", x.reached(what), then[what]);
        }
        x.lay(7);
        due("all made: no dead end", x.reached(1), 0);
        due("all made: none", x.reached(2), NONE);
        due("without a part", new SheetFolds().reached(0), NONE);
    }

    private static void fewest() {
        SheetFolds x = of(CROSS);
        due("flips", x.fewest(0), 1);
        due("changes", x.fewest(1), 1);
        due("fewest(2)", x.fewest(2), NONE);
        due("fewest(-1)", x.fewest(-1), NONE);
        x.lay(2);
        due("those left alone count", x.fewest(0), 0);
        x.lay(7);
        due("nothing left", x.fewest(1), 0);
        SheetFolds y = of(ROLL);
        y.lay(3);
        due("no order", y.fewest(0), NONE);
    }

    private static void thrifty() {
        SheetFolds x = of(CROSS);
        int[] flips = {1, 3, 2, NONE};
        int[] changes = {1, 2, 3, NONE};
        for (int k = 0; k < 4; k++) {
            due("thrifty(0, " + k + ")", x.thrifty(0, k), flips[k]);
            due("thrifty(1, " + k + ")", x.thrifty(1, k), changes[k]);
        }
        due("k -1", x.thrifty(0, -1), NONE);
        due("what 2", x.thrifty(2, 0), NONE);
        due("the eighth of eight", of(star()).thrifty(0, 7), 8);
        SheetFolds y = of(ROLL);
        y.lay(3);
        due("no order", y.thrifty(0, 0), NONE);
    }

    private static void tallest() {
        SheetFolds x = of(ROLL);
        due("others go", x.tallest(), 99);
        x.lay(3);
        due("down to the base", x.tallest(), 4);
        SheetFolds low = of(LOW);
        low.lay(3);
        due("the least", low.tallest(), 1);
        x.lay(7);
        due("all made", x.tallest(), 99);
        due("no tools", of(ROLL.replace("tool 6", "tool 5")).tallest(), NONE);
        due("without a part", new SheetFolds().tallest(), NONE);
        SheetFolds deep = of(ROLL.replace("high 3", "high 5"));
        due("it clashes at any height", deep.tallest(), NONE);
    }

    private static void turned() {
        SheetFolds x = of(ROLL);
        due("as it is", x.orders(), 4);
        due("d", x.turned(3), 6);
        due("it stays", x.orders(), 4);
        due("it stays", x.flange(3, 5), 1);
        due("of none", x.turned(4), NONE);
        due("of the base", x.turned(0), NONE);
        x.lay(3);
        due("from there", x.turned(3), 1);
        due("made", x.turned(1), NONE);
    }

    private static void mends() {
        SheetFolds x = of(ROLL);
        due("none has to be", x.mends(), 0);
        x.lay(3);
        due("the last one", x.mends(), 4);
        x.turn(3);
        due("turned", x.mends(), 0);
        due("all stays", x.has(4), 3);
        due("no tools", of(ROLL.replace("tool 6", "tool 5")).mends(), NONE);
        due("one is enough, of like ones the least", of(ROLL.replace("high 3", "high 5")).mends(), 1);
        due("so the other way", of(mirrored(ROLL.replace("high 3", "high 5"))).mends(), 1);
        for (String hook : new String[] {HOOK, mirrored(HOOK)}) {
            SheetFolds y = of(hook);
            y.lay(27);
            due("no order", y.orders(), 0);
            due("there is just room", y.mends(), 4);
            y.press(5);
            due("there is none", y.mends(), NONE);
            y.undo();
            due("once more", y.mends(), 4);
        }
        SheetFolds knot = of(KNOT);
        knot.lay(123);
        due("no order of the knot", knot.orders(), 0);
        due("bend 8, then bend 3 turned", knot.mends(), 4);
        knot.press(4);
        due("no room for bend 8", knot.mends(), NONE);
        knot.lay(251);
        due("bend 8 is made", knot.mends(), 4);
        due("without a part", new SheetFolds().mends(), NONE);
    }

    private static void lacks() {
        SheetFolds x = of(CROSS.replace("tool 6;", "").replace("tool 3;tool 3;", "tool 5;"));
        due("the least", x.lacks(0), 6);
        due("how many", x.lacks(1), 2);
        due("lacks(2)", x.lacks(2), NONE);
        due("lacks(-1)", x.lacks(-1), NONE);
        due("each has some", of(CROSS).lacks(0), NONE);
        due("none", of(CROSS).lacks(1), 0);
        due("without a part", new SheetFolds().lacks(1), NONE);
    }

    private static void opens() {
        SheetFolds x = of(HEAP);
        due("none made", x.opens(), 0);
        x.lay(4);
        due("c would lie on b", x.opens(), 0);
        x.lay(6);
        due("b stands, so c may lie", x.opens(), 6);
        due("without a part", new SheetFolds().opens(), NONE);
    }

    private static void smallest() {
        SheetFolds x = of(ROLL);
        due("the state", x.smallest(0), 7);
        due("how long", x.smallest(1), 16);
        due("smallest(2)", x.smallest(2), NONE);
        due("smallest(-1)", x.smallest(-1), NONE);
        x.lay(3);
        due("what can be reached", x.smallest(0), 3);
        due("how long", x.smallest(1), 17);
        due("without a part", new SheetFolds().smallest(0), NONE);
        SheetFolds y = of("sheet thick 1 base 6 6;allow 1 0;tool 6;"
                + "flange a on base north from 0 wide 6 high 6 up round 1;");
        due("of like ones the least", y.smallest(0), 0);
        due("of like ones", y.smallest(1), 18);
    }

    private static void between() {
        SheetFolds x = of(TRAY);
        due("b and c", x.between(2, 3), 3);
        due("c and b", x.between(3, 2), 3);
        due("c and the base", x.between(3, 0), 2);
        due("itself", x.between(3, 3), 0);
        due("of none", x.between(4, 0), NONE);
        due("of -1", x.between(0, -1), NONE);
    }

    private static void see() {
        SheetFolds x = of(TRAY);
        put(x, "\1\0\11\3\0\20");
        due("two rows", x.see(), 2);
        due("has(5)", x.has(5), 2);
        due("the tape goes", x.end(1), false);
        put(x, "\1\0\11\3\0");
        due("a piece of a row", x.see(), NONE);
        due("the tape goes", x.end(1), false);
        put(x, "\0\0\11");
        due("the base", x.see(), NONE);
        put(x, "\4\0\11");
        due("no such flange", x.see(), NONE);
        due("no rows", x.see(), NONE);
        put(x, "\1\0\11".repeat(9));
        due("nine rows", x.see(), NONE);
        due("all stays", x.has(5), 2);
        due("status(5)", x.status(5), 5);
        put(x, "\1\0\11".repeat(8));
        due("eight rows", x.see(), 8);
        SheetFolds none = new SheetFolds();
        put(none, "\1\0\11");
        due("without a part", none.see(), NONE);
    }

    private static void fits() {
        SheetFolds x = of(TRAY);
        due("nothing seen", x.fits(1, NONE), NONE);
        put(x, "\1\0\15\3\0\30");
        x.see();
        due("one fit", x.fits(1, NONE), 1);
        due("it is 7", x.fits(1, 0), 7);
        due("no second", x.fits(1, 1), NONE);
        due("k -2", x.fits(1, -2), NONE);
        due("another radius", x.fits(2, NONE), 0);
        due("radius 0", x.fits(0, NONE), NONE);
        due("radius 10", x.fits(10, NONE), NONE);
        put(x, "\2\0\10");
        x.see();
        due("any", x.fits(1, NONE), 61);
        due("the last", x.fits(1, 60), 60);
        due("none behind", x.fits(1, 61), NONE);
        due("its own", x.fits(2, 0), 4);
        put(x, "\2\1\10");
        x.see();
        due("the higher byte first", x.fits(2, NONE), 0);
        SheetFolds y = of("sheet thick 1 base 6 6;flange a on base north from 0 wide 6 high 60 up round 1;"
                + "flange b on a north from 0 wide 6 high 60 up round 1;"
                + "flange c on b north from 0 wide 6 high 60 up round 1;"
                + "flange d on c north from 0 wide 6 high 60 up round 1;");
        put(y, "\4\1\10");
        y.see();
        due("264 is 240 and 4 times 6", y.fits(1, 0), 6);
    }

    private static void tells() {
        SheetFolds x = of(TRAY);
        due("nothing seen", x.tells(1, 0), NONE);
        put(x, "\1\0\11");
        x.see();
        due("b", x.tells(2, 0), 2);
        due("one left", x.tells(2, 1), 1);
        due("one fit: the first flange", x.tells(1, 0), 1);
        due("one fit", x.tells(1, 1), 1);
        due("no flange of it: the first", x.tells(5, 0), 1);
        due("all left", x.tells(5, 1), 61);
        due("what 2", x.tells(1, 2), NONE);
        due("what -1", x.tells(1, -1), NONE);
        due("radius 0", x.tells(0, 0), NONE);
        due("radius 10", x.tells(10, 0), NONE);
        put(x, "\1\0\1");
        x.see();
        due("no fits", x.tells(1, 0), NONE);
        SheetFolds y = of(star());
        put(y, "\1\0\6");
        y.see();
        due("eight flanges, none of it", y.tells(9, 0), 1);
    }

    private static void bend() {
        SheetFolds x = of(ROLL);
        due("made", x.bend(1), 0);
        due("again", x.bend(1), 1);
        due("made", x.bend(2), 0);
        due("the punch", x.bend(3), 3);
        due("of none", x.bend(4), NONE);
        due("of the base", x.bend(0), NONE);
        due("status(2)", x.status(2), 4);
        due("has(4)", x.has(4), 3);
        due("has(6)", x.has(6), 2);
    }

    private static void open() {
        SheetFolds x = of(HEAP);
        due("not made", x.open(3), false);
        x.lay(4);
        due("a clash", x.open(3), false);
        due("of none", x.open(4), false);
        due("of the base", x.open(0), false);
        due("status(2)", x.status(2), 4);
        x.lay(6);
        due("it can be", x.open(3), true);
        due("has(4)", x.has(4), 2);
    }

    private static void turn() {
        SheetFolds x = of(ROLL);
        due("as it was", x.orders(), 4);
        due("turned", x.turn(1), true);
        due("down", x.flange(1, 5), 0);
        due("orders", x.orders(), 6);
        due("and back", x.turn(1), true);
        due("up", x.flange(1, 5), 1);
        x.bend(1);
        due("made", x.turn(1), false);
        due("of none", x.turn(4), false);
        due("of the base", x.turn(0), false);
        due("status(2)", x.status(2), 3);
    }

    private static void lay() {
        SheetFolds x = of(HEAP);
        due("it is so", x.lay(0), false);
        due("state 4", x.lay(4), true);
        due("has(4)", x.has(4), 4);
        due("a clash", x.lay(0), false);
        due("no such state", x.lay(8), false);
        due("state -1", x.lay(-1), false);
        due("status(2)", x.status(2), 4);
        due("without tools", of(ROLL.replace("tool 6", "tool 5")).lay(7), true);
    }

    private static void follow() {
        SheetFolds x = of(ROLL);
        due("none", x.follow(0), NONE);
        due("too many", x.follow(4), NONE);
        due("two", x.follow(2), 5);
        due("one act", x.has(6), 1);
        due("too many", x.follow(2), NONE);
        due("the last one", x.follow(1), 7);
        due("nothing left", x.follow(1), NONE);
        SheetFolds y = of(HEAP);
        y.lay(2);
        due("c goes ahead of a", y.follow(1), 6);
        x.lay(3);
        due("no order", x.follow(1), NONE);
        due("status(3)", x.status(3), 5);
    }

    private static void allow() {
        SheetFolds x = of(TRAY);
        due("it is that", x.allow(1, 3), false);
        due("it is that, not told", x.allow(2, 4), false);
        due("61", x.allow(1, 61), false);
        due("-1", x.allow(1, -1), false);
        due("radius 0", x.allow(0, 5), false);
        due("radius 10", x.allow(10, 5), false);
        due("status(3)", x.status(3), 6);
        due("60", x.allow(1, 60), true);
        due("allowance(1)", x.allowance(1), 60);
        due("flat", x.flat(1, 1), 70);
        due("0", x.allow(2, 0), true);
        due("length", x.flange(2, 9), 4);
        SheetFolds y = of(HEAP);
        due("c goes ahead of a, or of b", y.orders(), 4);
        due("beyond b", y.allow(2, 7), true);
        due("any order", y.orders(), 6);
        due("undone", y.undo(), true);
        due("as it was", y.orders(), 4);
        due("without a part", new SheetFolds().allow(1, 5), false);
    }

    private static void press() {
        SheetFolds x = of(ROLL);
        due("it is that", x.press(30), false);
        due("0", x.press(0), false);
        due("100", x.press(100), false);
        due("status(3)", x.status(3), 3);
        due("orders", x.orders(), 4);
        due("5", x.press(5), true);
        due("orders", x.orders(), 4);
        due("4", x.press(4), true);
        due("orders", x.orders(), 6);
        due("has(3)", x.has(3), 4);
        due("without a part", new SheetFolds().press(5), false);
    }

    private static void chance() {
        SheetFolds x = of(CROSS);
        due("0", x.chance(0), NONE);
        due("41", x.chance(41), NONE);
        due("no bends", of(SHEET).chance(1), NONE);
        due("status(3)", x.status(3), 2);
        // the seed 1 becomes 1103527590, and 17242618 mod 3 is 1: bend 2
        due("once", x.chance(1), 2);
        due("the seed", x.has(7), 1103527590);
        x.seed(1);
        due("once more: it is opened", x.chance(1), 0);
        due("acts", x.has(6), 2);
        due("40", x.chance(40) >= 0, true);
        due("one act", x.has(6), 3);
        SheetFolds y = of(CROSS.replace("tool 3;tool 3;tool 6;", ""));
        due("it can't be", y.chance(1), 0);
        due("an act, all the same", y.has(6), 1);
        SheetFolds z = of(HEAP);
        z.lay(4);
        // the seed 4 becomes 119106029, and 1861031 mod 3 is 2: bend 3
        z.seed(4);
        due("it can't be opened", z.chance(1), 4);
        due("one bend", of("sheet thick 1 base 6 6;tool 6;"
                + "flange a on base north from 0 wide 6 high 1 up round 1;").chance(1), 1);
    }

    private static void undo() {
        SheetFolds x = of(TRAY);
        due("none", x.undo(), false);
        due("status(4)", x.status(4), 1);
        x.bend(1);
        x.turn(2);
        x.allow(2, 9);
        x.press(50);
        x.chance(3);
        put(x, "\1\0\11");
        x.see();
        int seed = x.has(7);
        due("chance", x.undo(), true);
        due("made", x.has(4), 1);
        due("the seed stays", x.has(7), seed);
        due("seen stays", x.has(5), 1);
        due("press", x.undo(), true);
        due("has(3)", x.has(3), 30);
        due("allow", x.undo(), true);
        due("allowance(2)", x.allowance(2), 4);
        due("turn", x.undo(), true);
        due("down", x.flange(2, 5), 0);
        due("bend", x.undo(), true);
        due("made", x.has(4), 0);
        due("none left", x.undo(), false);
        for (int i = 1; i <= 25; i++) {
            x.press(30 + i);
        }
        due("twenty", x.has(6), 20);
        for (int i = 0; i < 20; i++) {
            due("one of twenty", x.undo(), true);
        }
        due("no more", x.undo(), false);
        due("has(3)", x.has(3), 35);
        undoneStates();
    }

    private static void undoneStates() {
        SheetFolds x = of(ROLL);
        x.follow(2);
        x.open(1);
        x.lay(3);
        due("orders at 3", x.orders(), 0);
        due("lay", x.undo(), true);
        due("has(4)", x.has(4), 4);
        due("orders at 4", x.orders(), 2);
        due("open", x.undo(), true);
        due("has(4)", x.has(4), 5);
        due("follow", x.undo(), true);
        due("has(4)", x.has(4), 0);
        x.turn(3);
        due("orders with d turned", x.orders(), 6);
        x.undo();
        due("orders with d turned back", x.orders(), 4);
    }

    private static void seed() {
        SheetFolds x = new SheetFolds();
        due("seed(0)", x.seed(0), true);
        due("has(7)", x.has(7), 0);
        due("the greatest", x.seed(Integer.MAX_VALUE), true);
        due("has(7)", x.has(7), Integer.MAX_VALUE);
        due("seed(-1)", x.seed(-1), false);
        due("it stays", x.has(7), Integer.MAX_VALUE);
        due("status(5)", x.status(5), 1);
        due("no act", x.has(6), 0);
    }

    private static void status() {
        SheetFolds x = new SheetFolds();
        x.end(5);
        x.part();
        x.part();
        x.bend(1);
        x.open(1);
        x.turn(1);
        x.lay(0);
        x.follow(1);
        x.allow(1, 1);
        x.press(1);
        x.chance(1);
        x.undo();
        x.seed(-1);
        x.see();
        int[] want = {1, 2, 4, 4, 1, 2};
        for (int what = 0; what < 6; what++) {
            due("status(" + what + ")", x.status(what), want[what]);
        }
        due("status(6)", x.status(6), NONE);
        due("status(-1)", x.status(-1), NONE);
    }

    private static void run(int number) {
        promise(number);
        switch (number) {
            case 1 -> newObject();
            case 2 -> feed();
            case 3 -> end();
            case 4 -> part();
            case 5 -> faults();
            case 6 -> has();
            case 7 -> letter();
            case 8 -> flange();
            case 9 -> tool();
            case 10 -> allowance();
            case 11 -> flat();
            case 12 -> flatBox();
            case 13 -> overlap();
            case 14 -> space();
            case 15 -> spaceBox();
            case 16 -> gap();
            case 17 -> normal();
            case 18 -> clash();
            case 19 -> meets();
            case 20 -> tools();
            case 21 -> why();
            case 22 -> orders();
            case 23 -> order();
            case 24 -> mayBeLast();
            default -> runLater(number);
        }
    }

    private static void runLater(int number) {
        switch (number) {
            case 25 -> ahead();
            case 26 -> reached();
            case 27 -> fewest();
            case 28 -> thrifty();
            case 29 -> tallest();
            case 30 -> turned();
            case 31 -> mends();
            case 32 -> lacks();
            case 33 -> opens();
            case 34 -> smallest();
            case 35 -> between();
            case 36 -> see();
            case 37 -> fits();
            case 38 -> tells();
            case 39 -> bend();
            case 40 -> open();
            case 41 -> turn();
            case 42 -> lay();
            case 43 -> follow();
            case 44 -> allow();
            case 45 -> press();
            case 46 -> chance();
            case 47 -> undo();
            case 48 -> seed();
            case 49 -> status();
            default -> throw new IllegalArgumentException("promise " + number);
        }
    }

    public static void main(String[] args) {
        for (int number = 1; number <= 49; number++) {
            run(number);
        }
        end("PromiseTest");
    }
}
