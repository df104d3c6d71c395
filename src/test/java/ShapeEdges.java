/** The edges of Terms II and of the promises 6 to 21: the part told, laid flat, in space; tools, reasons. */
final class ShapeEdges extends Check {
    private static final String[] SIDES = {"north", "east", "south", "west"};
    private static final String A = "flange a on base north from 2 wide 5 high 3 up round 1;";

    private ShapeEdges() {
    }

    static void all() {
        has();
        letter();
        flange();
        toolWidths();
        allowance();
        flat();
        flatBox();
        overlap();
        space();
        spaceFolded();
        spaceBox();
        gap();
        normal();
        clashCalls();
        clashInOnePlane();
        clashAtRightAngles();
        meetsCalls();
        meetsInItsPlane();
        meetsAtRightAngles();
        tools();
        reasons();
    }

    private static String eight() {
        StringBuilder text = new StringBuilder("sheet thick 1 base 8 8;allow 1 0;");
        for (int i = 0; i < 8; i++) {
            text.append("flange ").append((char) ('a' + i)).append(" on base north from ").append(i);
            text.append(" wide 1 high ").append(i + 1).append(" up round 1;");
        }
        return text.toString();
    }

    private static void has() {
        says(6, "0 FLANGES (the BASE, too), 1 TOOLS, 2 THICK, 3 how high the PUNCH is, 4 BENDS that are MADE, as bits,"
                + " 5 rows SEEN, 6 ACTS that can be undone, 7 the seed.");
        SheetFolds x = of(SHEET);
        int[] alone = {1, 0, 1, 30, 0, 0, 0, 1};
        for (int what = 0; what < alone.length; what++) {
            due("of the base alone has(" + what + ")", x.has(what), alone[what]);
        }
        SheetFolds y = of(eight() + "tool 1;".repeat(8) + "press 99;");
        y.lay(255);
        put(y, "\1\0\1".repeat(8));
        y.see();
        y.seed(Integer.MAX_VALUE);
        int[] most = {9, 8, 1, 99, 255, 8, 1, Integer.MAX_VALUE};
        for (int what = 0; what < most.length; what++) {
            due("of eight has(" + what + ")", y.has(what), most[what]);
        }
        says(6, "Without a part all but the seed are 0.");
        SheetFolds none = new SheetFolds();
        put(none, eight() + "tool 1;x");
        none.part();
        none.seed(5);
        for (int what = 0; what < 7; what++) {
            due("has(" + what + ")", none.has(what), 0);
        }
        due("the seed", none.has(7), 5);
        says(6, "NONE for others.");
        for (int what : outside(0, 7)) {
            due("has(" + what + ")", y.has(what), NONE);
            due("without a part has(" + what + ")", none.has(what), NONE);
        }
    }

    private static void letter() {
        says(7, "Letter k (0 .. 3) of the NAME of a FLANGE: 1 .. 26; 0 behind it (and of the BASE)");
        SheetFolds x = of(SHEET + A.replace(" a ", " azby ") + A.replace(" a ", " z ").replace("north", "south"));
        int[][] want = {{0, 0, 0, 0}, {1, 26, 2, 25}, {26, 0, 0, 0}};
        for (int f = 0; f < 3; f++) {
            for (int k = 0; k < 4; k++) {
                due("letter(" + f + ", " + k + ")", x.letter(f, k), want[f][k]);
            }
        }
        says(7, "NONE when there is none such.");
        for (int f : outside(0, 2)) {
            due("letter(" + f + ", 0)", x.letter(f, 0), NONE);
        }
        for (int k : outside(0, 3)) {
            due("letter(1, " + k + ")", x.letter(1, k), NONE);
            due("letter(0, " + k + ")", x.letter(0, k), NONE);
        }
        due("of the base alone", of(SHEET).letter(1, 0), NONE);
        due("without a part", new SheetFolds().letter(0, 0), NONE);
    }

    private static void flange() {
        says(8, "Of a FLANGE but the BASE: 0 PARENT, 1 SIDE, 2 from, 3 WIDTH, 4 HEIGHT, 5 WAY (1 up, 0 down), 6 RADIUS,"
                + " 7 how many hang on it, 8 on how many it hangs (but the BASE), 9 LENGTH.");
        SheetFolds x = of("sheet thick 1 base 60 60;allow 9 60;allow 1 0;"
                + "flange a on base east from 0 wide 60 high 1 down round 9;"
                + "flange b on a east from 59 wide 1 high 60 up round 1;"
                + "flange c on b north from 58 wide 2 high 7 up round 9;"
                + "flange d on b south from 0 wide 60 high 2 down round 1;");
        int[][] want = {{0, 1, 0, 60, 1, 0, 9, 3, 0, 61}, {1, 1, 59, 1, 60, 1, 1, 2, 1, 121},
            {2, 0, 58, 2, 7, 1, 9, 0, 2, 188}, {2, 2, 0, 60, 2, 0, 1, 0, 2, 123}};
        for (int f = 1; f <= 4; f++) {
            for (int what = 0; what <= 9; what++) {
                due("flange(" + f + ", " + what + ")", x.flange(f, what), want[f - 1][what]);
            }
        }
        says(8, "NONE when there is none such, or for others.");
        for (int f : outside(1, 4)) {
            due("flange(" + f + ", 0)", x.flange(f, 0), NONE);
            due("flange(" + f + ", 9)", x.flange(f, 9), NONE);
        }
        for (int what : outside(0, 9)) {
            due("flange(1, " + what + ")", x.flange(1, what), NONE);
        }
        due("of the base alone", of(SHEET).flange(1, 3), NONE);
        due("without a part", new SheetFolds().flange(1, 0), NONE);
        SheetFolds row = of("sheet thick 1 base 1 1;flange a on base south from 0 wide 1 high 1 up round 1;"
                + "flange b on a south from 0 wide 1 high 1 up round 1;flange c on b south from 0 wide 1 high 1 up round 1;"
                + "flange d on c south from 0 wide 1 high 1 up round 1;flange e on d south from 0 wide 1 high 1 up round 1;"
                + "flange f on e south from 0 wide 1 high 1 up round 1;flange g on f south from 0 wide 1 high 1 up round 1;"
                + "flange h on g south from 0 wide 1 high 1 up round 1;");
        terms("FLANGE 0 is the BASE, others are numbered from 1 on as told");
        for (int f = 1; f <= 8; f++) {
            due("flange(" + f + ", 0)", row.flange(f, 0), f - 1);
            due("letter(" + f + ", 0)", row.letter(f, 0), f);
        }
        terms("LENGTH of a FLANGE: its HEIGHT and ALLOWANCE, and those of all on which it hangs but the BASE.");
        due("the first of eight", row.flange(1, 9), 3);
        due("seven hang on the first of eight", row.flange(1, 7), 7);
        due("the last of eight hangs on seven", row.flange(8, 8), 7);
        due("all eight lengths", row.flange(8, 9), 24);
    }

    private static void toolWidths() {
        says(9, "WIDTH of a TOOL; NONE when there is none such.");
        SheetFolds x = of(SHEET + "tool 1;tool 60;tool 1;");
        int[] want = {1, 60, 1};
        for (int t = 0; t < 3; t++) {
            due("tool(" + t + ")", x.tool(t), want[t]);
        }
        for (int t : outside(0, 2)) {
            due("tool(" + t + ")", x.tool(t), NONE);
        }
        due("no tools", of(SHEET).tool(0), NONE);
        due("the eighth", of(SHEET + "tool 1;".repeat(7) + "tool 9;").tool(7), 9);
        due("no ninth", of(SHEET + "tool 1;".repeat(8)).tool(8), NONE);
        due("without a part", new SheetFolds().tool(0), NONE);
        put(x, SHEET + "tool 7;");
        x.part();
        due("no tool of the part ahead", x.tool(1), NONE);
    }

    private static void allowance() {
        terms("ALLOWANCE of a RADIUS r: as told, else 11 times (2 r and THICK), by 14, cut.");
        due("11 times 3 by 14", of("sheet thick 1 base 1 1;").allowance(1), 2);
        due("just 11", of("sheet thick 8 base 1 1;").allowance(3), 11);
        due("just below", of("sheet thick 7 base 1 1;").allowance(3), 10);
        due("just 11, otherwise", of("sheet thick 6 base 1 1;").allowance(4), 11);
        due("the greatest", of("sheet thick 9 base 1 1;").allowance(9), 21);
        due("as told, the least", of("sheet thick 9 base 1 1;allow 9 0;").allowance(9), 0);
        due("as told, the greatest", of("sheet thick 1 base 1 1;allow 1 60;").allowance(1), 60);
        says(10, "ALLOWANCE of a RADIUS (1 .. 9); NONE when there is none such, or without a part.");
        for (int thick = 1; thick <= 9; thick++) {
            SheetFolds x = of("sheet thick " + thick + " base 1 1;");
            for (int r = 1; r <= 9; r++) {
                int cut = 0;
                while (14 * (cut + 1) <= 11 * (r + r + thick)) {
                    cut++;
                }
                due("thick " + thick + " allowance(" + r + ")", x.allowance(r), cut);
            }
            for (int r : outside(1, 9)) {
                due("allowance(" + r + ")", x.allowance(r), NONE);
            }
        }
        for (int r = 0; r <= 10; r++) {
            due("without a part", new SheetFolds().allowance(r), NONE);
        }
    }

    /** One flange on a side with one on each side that it has free: allowances of 2 and 1. */
    private static String crossOn(int side, String way) {
        String a = "sheet thick 1 base 10 20;allow 1 2;allow 2 1;"
                + "flange a on base " + SIDES[side] + " from 3 wide 5 high 4 " + way + " round 1;";
        int letter = 'b';
        StringBuilder text = new StringBuilder(a);
        for (int other = 0; other < 4; other++) {
            if (other != (side + 2) % 4) {
                text.append("flange ").append((char) letter).append(" on a ").append(SIDES[other]);
                text.append(" from 1 wide 2 high 3 up round 2;");
                letter++;
            }
        }
        return text.toString();
    }

    private static void dueRow(String what, int[] want, java.util.function.IntUnaryOperator got) {
        for (int i = 0; i < want.length; i++) {
            due(what + ", " + i + ")", got.applyAsInt(i), want[i]);
        }
    }

    private static void flat() {
        terms("(So on the north of a PARENT of x0 .. x1, y0 .. y1: x from x0 and from, so wide; the ZONE from y1 on,"
                + " y from y1 and ALLOWANCE on, so high.)");
        int[][][] flanges = {
            {{0, 0, 10, 20}, {3, 22, 8, 26}, {4, 27, 6, 30}, {9, 23, 12, 25}, {-1, 23, 2, 25}},
            {{0, 0, 10, 20}, {12, 3, 16, 8}, {13, 9, 15, 12}, {17, 4, 20, 6}, {13, -1, 15, 2}},
            {{0, 0, 10, 20}, {3, -6, 8, -2}, {9, -5, 12, -3}, {4, -10, 6, -7}, {-1, -5, 2, -3}},
            {{0, 0, 10, 20}, {-6, 3, -2, 8}, {-5, 9, -3, 12}, {-5, -1, -3, 2}, {-10, 4, -7, 6}}};
        int[][][] zones = {
            {{3, 20, 8, 22}, {4, 26, 6, 27}, {8, 23, 9, 25}, {2, 23, 3, 25}},
            {{10, 3, 12, 8}, {13, 8, 15, 9}, {16, 4, 17, 6}, {13, 2, 15, 3}},
            {{3, -2, 8, 0}, {8, -5, 9, -3}, {4, -7, 6, -6}, {2, -5, 3, -3}},
            {{-2, 3, 0, 8}, {-5, 8, -3, 9}, {-5, 2, -3, 3}, {-7, 4, -6, 6}}};
        for (int side = 0; side < 4; side++) {
            SheetFolds x = of(crossOn(side, "up"));
            for (int f = 0; f < 5; f++) {
                int piece = f;
                dueRow(SIDES[side] + ": flat(" + f, flanges[side][f], what -> x.flat(piece, what));
            }
            for (int z = 0; z < 4; z++) {
                int piece = 9 + z;
                dueRow(SIDES[side] + ": flat(" + piece, zones[side][z], what -> x.flat(piece, what));
            }
            x.lay(15);
            due("flat, though its bends are made", x.flat(1, 0), flanges[side][1][0]);
        }
        flatCalls();
    }

    private static void flatCalls() {
        terms("Laid FLAT the BASE has x from 0 to its width, y from 0 to its height.");
        dueRow("flat(0", new int[] {0, 0, 60, 1}, what -> of("sheet thick 1 base 60 1;").flat(0, what));
        dueRow("flat(0", new int[] {0, 0, 1, 60}, what -> of("sheet thick 1 base 1 60;").flat(0, what));
        terms("Behind its PARENT's SIDE a FLANGE has its ZONE, as long as its RADIUS' ALLOWANCE, behind that it lies itself, HEIGHT"
                + " long, away from that SIDE; both are WIDTH wide.");
        SheetFolds far = of("sheet thick 1 base 60 60;allow 1 60;flange a on base east from 59 wide 1 high 60 up round 1;");
        dueRow("flat(9", new int[] {60, 59, 120, 60}, what -> far.flat(9, what));
        dueRow("flat(1", new int[] {120, 59, 180, 60}, what -> far.flat(1, what));
        far.allow(1, 0);
        dueRow("without allowance flat(9", new int[] {60, 59, 60, 60}, what -> far.flat(9, what));
        dueRow("without allowance flat(1", new int[] {60, 59, 120, 60}, what -> far.flat(1, what));
        terms("PIECES are FLANGES and ZONES (8 more than the number of its FLANGE).");
        says(11, "Of a PIECE laid FLAT (FLANGES 0 .. 8, ZONES 9 .. 16): 0, 1 least x, y, 2, 3 greatest x, y.");
        SheetFolds all = of(eight());
        due("flange 8", all.flat(8, 3), 16);
        due("zone 9", all.flat(9, 0), 0);
        due("zone 16", all.flat(16, 0), 7);
        due("a zone without length", all.flat(16, 1), 8);
        due("a zone without length", all.flat(16, 3), 8);
        says(11, "NOTHING when there is none such, or for others.");
        for (int piece : outside(0, 16)) {
            due("flat(" + piece + ", 0)", all.flat(piece, 0), NOTHING);
        }
        for (int what : outside(0, 3)) {
            due("flat(0, " + what + ")", all.flat(0, what), NOTHING);
            due("flat(9, " + what + ")", all.flat(9, what), NOTHING);
        }
        SheetFolds one = of(SHEET + A);
        for (int piece = 0; piece <= 17; piece++) {
            boolean there = piece == 0 || piece == 1 || piece == 9;
            due("of one flange flat(" + piece + ", 0)", one.flat(piece, 0) != NOTHING, there);
        }
        SheetFolds none = of(SHEET);
        due("no flange 1", none.flat(1, 0), NOTHING);
        due("the base has no zone", none.flat(8, 0), NOTHING);
        due("no zone 9", none.flat(9, 0), NOTHING);
        due("without a part", new SheetFolds().flat(0, 0), NOTHING);
    }

    private static void flatBox() {
        says(12, "Of all PIECES laid FLAT: 0, 1 least x, y, 2, 3 greatest x, y, 4 how much area FLANGES and ZONES have"
                + " together.");
        int[][] want = {{-1, 0, 12, 30, 200 + 20 + 10 + 3 * 8}, {0, -1, 20, 20, 200 + 20 + 10 + 3 * 8},
            {-1, -10, 12, 20, 254}, {-10, -1, 10, 20, 254}};
        for (int side = 0; side < 4; side++) {
            SheetFolds x = of(crossOn(side, "down"));
            dueRow(SIDES[side] + ": flatBox(", want[side], x::flatBox);
        }
        SheetFolds alone = of("sheet thick 1 base 60 1;");
        dueRow("of the base alone flatBox(", new int[] {0, 0, 60, 1, 60}, alone::flatBox);
        SheetFolds heap = of(heap(1, 8, 0, 4, 6));
        due("what overlaps has its area twice", heap.flatBox(4), 100 + 32 + 32 + 24 + 4);
        says(12, "NOTHING for others, or without a part.");
        for (int what : outside(0, 4)) {
            due("flatBox(" + what + ")", alone.flatBox(what), NOTHING);
        }
        for (int what = 0; what <= 4; what++) {
            due("without a part", new SheetFolds().flatBox(what), NOTHING);
        }
    }

    /**
     * Laid flat a has x 0 .. 4, b x 6 .. 10, both from y 10 on; c goes east from a behind its zone, from y 10 and
     * from on.
     */
    private static String heap(int zone, int highB, int from, int wide, int high) {
        return "sheet thick 1 base 10 10;allow 1 0;allow 2 " + zone + ";"
                + "flange a on base north from 0 wide 4 high 8 up round 1;"
                + "flange b on base north from 6 wide 4 high " + highB + " up round 1;"
                + "flange c on a east from " + from + " wide " + wide + " high " + high + " up round 2;";
    }

    private static void overlap() {
        terms("Two PIECES OVERLAP, if they share more than a border.");
        due("a border of c and b", of(heap(1, 8, 0, 4, 1)).overlap(NONE, 0), 0);
        due("by one along x", of(heap(1, 8, 0, 4, 2)).overlap(NONE, 0), 1);
        due("a border above b", of(heap(1, 4, 4, 4, 6)).overlap(NONE, 0), 0);
        due("by one along y", of(heap(1, 5, 4, 4, 6)).overlap(NONE, 0), 1);
        due("a corner", of(heap(1, 4, 4, 4, 1)).overlap(NONE, 0), 0);
        due("a border behind b", of(heap(6, 8, 0, 4, 1)).overlap(0, 1), 11);
        due("the zone alone lies over b", of(heap(6, 8, 0, 4, 1)).overlap(NONE, 0), 1);
        due("a border of the zone", of(heap(2, 8, 0, 4, 1)).overlap(0, 1), 3);
        due("the zone shares none", of(heap(2, 8, 0, 4, 1)).overlap(NONE, 0), 1);
        due("the zone by one", of(heap(3, 8, 0, 4, 1)).overlap(NONE, 0), 2);
        due("a zone without length", of(heap(0, 8, 0, 4, 3)).overlap(NONE, 0), 1);
        says(13, "How many pairs of PIECES OVERLAP (k NONE), of the k-th, by the less number, then the other one: 0 that,"
                + " 1 the other one.");
        SheetFolds x = of("sheet thick 1 base 10 10;allow 1 2;allow 2 3;"
                + "flange a on base north from 0 wide 4 high 8 up round 1;"
                + "flange b on base north from 6 wide 4 high 8 up round 1;"
                + "flange c on a east from 0 wide 2 high 6 up round 2;"
                + "flange d on a east from 3 wide 4 high 6 up round 2;"
                + "flange e on b west from 4 wide 2 high 3 up round 1;");
        int[][] pairs = {{1, 5}, {2, 3}, {2, 4}, {2, 11}, {2, 12}, {12, 13}};
        due("how many", x.overlap(NONE, 0), pairs.length);
        due("how many, whatever what is", x.overlap(NONE, 1), pairs.length);
        for (int k = 0; k < pairs.length; k++) {
            due("overlap(" + k + ", 0)", x.overlap(k, 0), pairs[k][0]);
            due("overlap(" + k + ", 1)", x.overlap(k, 1), pairs[k][1]);
        }
        says(13, "NONE when there is none such, or for others.");
        due("no such pair", x.overlap(pairs.length, 0), NONE);
        due("the greatest k", x.overlap(Integer.MAX_VALUE, 0), NONE);
        due("k -2", x.overlap(-2, 0), NONE);
        due("the least k", x.overlap(Integer.MIN_VALUE, 1), NONE);
        for (int what : outside(0, 1)) {
            due("overlap(0, " + what + ")", x.overlap(0, what), NONE);
        }
        due("none overlap", of(SHEET).overlap(NONE, 0), 0);
        due("none overlap", of(SHEET).overlap(0, 0), NONE);
        due("without a part", new SheetFolds().overlap(NONE, 0), NONE);
        due("without a part", new SheetFolds().overlap(0, 0), NONE);
        x.lay(31);
        due("flat, though all bends are made", x.overlap(NONE, 0), pairs.length);
    }

    private static void dueSpace(SheetFolds x, String when, int flange, int normal, int... want) {
        dueRow(when + ": space(" + flange, want, what -> x.space(flange, what));
        due(when + ": normal(" + flange + ")", x.normal(flange), normal);
    }

    private static void space() {
        terms("In SPACE, some BENDS being MADE: the BASE lies at z 0, its normal is z.");
        SheetFolds alone = of("sheet thick 1 base 60 1;");
        dueSpace(alone, "the base alone", 0, 3, 0, 0, 0, 60, 1, 0);
        SheetFolds folded = of(crossOn(1, "down"));
        folded.lay(15);
        dueSpace(folded, "all made", 0, 3, 0, 0, 0, 10, 20, 0);
        terms("Of a BEND that is not MADE its FLANGE goes on in the plane of its PARENT, behind ALLOWANCE, as laid FLAT,"
                + " with the like normal.");
        for (int side = 0; side < 4; side++) {
            SheetFolds x = of(crossOn(side, side % 2 == 0 ? "up" : "down"));
            for (int f = 0; f < 5; f++) {
                dueSpace(x, "none made", f, 3, x.flat(f, 0), x.flat(f, 1), 0, x.flat(f, 2), x.flat(f, 3), 0);
            }
        }
        says(14, "Of a FLANGE in SPACE as it is now: 0, 1, 2 least x, y, z, 3, 4, 5 greatest.");
        SheetFolds x = of(crossOn(0, "up"));
        due("not made", x.space(2, 4), 30);
        x.lay(1);
        due("made", x.space(2, 4), 20);
        x.undo();
        due("undone", x.space(2, 4), 30);
        x.allow(2, 60);
        due("another allowance", x.space(2, 4), 89);
        says(14, "NOTHING when there is none such, or for others.");
        for (int f : outside(0, 4)) {
            due("space(" + f + ", 0)", x.space(f, 0), NOTHING);
        }
        for (int what : outside(0, 5)) {
            due("space(0, " + what + ")", x.space(0, what), NOTHING);
            due("space(4, " + what + ")", x.space(4, what), NOTHING);
        }
        due("the base alone", of(SHEET).space(0, 3), 9);
        due("no flange 1", of(SHEET).space(1, 0), NOTHING);
        due("without a part", new SheetFolds().space(0, 0), NOTHING);
    }

    private static void spaceFolded() {
        terms("Of one that is MADE it begins at its PARENT's SIDE itself, and stands at a right angle: up: it goes away"
                + " along its PARENT's normal, its own normal is against the way it went");
        SheetFolds north = of(crossOn(0, "up"));
        north.lay(1);
        dueSpace(north, "north, up", 1, -2, 3, 20, 0, 8, 20, 4);
        dueSpace(north, "its north", 2, -2, 4, 20, 5, 6, 20, 8);
        dueSpace(north, "its east", 3, -2, 9, 20, 1, 12, 20, 3);
        dueSpace(north, "its west", 4, -2, -1, 20, 1, 2, 20, 3);
        north.lay(15);
        dueSpace(north, "its north, up", 2, -3, 4, 17, 4, 6, 20, 4);
        dueSpace(north, "its east, up", 3, -1, 8, 17, 1, 8, 20, 3);
        dueSpace(north, "its west, up", 4, 1, 3, 17, 1, 3, 20, 3);
        SheetFolds south = of(crossOn(2, "up"));
        south.lay(15);
        dueSpace(south, "south, up", 1, 2, 3, 0, 0, 8, 0, 4);
        dueSpace(south, "its east, up", 2, -1, 8, 0, 1, 8, 3, 3);
        dueSpace(south, "its south, up", 3, -3, 4, 0, 4, 6, 3, 4);
        dueSpace(south, "its west, up", 4, 1, 3, 0, 1, 3, 3, 3);
        terms("down: it goes away against its PARENT's normal, its own normal is the way it went. What hangs on it goes"
                + " along.");
        SheetFolds east = of(crossOn(1, "down"));
        east.lay(1);
        dueSpace(east, "east, down", 1, 1, 10, 3, -4, 10, 8, 0);
        dueSpace(east, "its north", 2, 1, 10, 9, -3, 10, 12, -1);
        dueSpace(east, "its east", 3, 1, 10, 4, -8, 10, 6, -5);
        dueSpace(east, "its south", 4, 1, 10, -1, -3, 10, 2, -1);
        east.lay(15);
        dueSpace(east, "its north, up", 2, -2, 10, 8, -3, 13, 8, -1);
        dueSpace(east, "its east, up", 3, 3, 10, 4, -4, 13, 6, -4);
        dueSpace(east, "its south, up", 4, 2, 10, 3, -3, 13, 3, -1);
        SheetFolds west = of(crossOn(3, "down"));
        west.turn(3);
        west.lay(15);
        dueSpace(west, "west, down", 1, -1, 0, 3, -4, 0, 8, 0);
        dueSpace(west, "its north, up", 2, -2, -3, 8, -3, 0, 8, -1);
        dueSpace(west, "its south, down", 3, -2, 0, 3, -3, 3, 3, -1);
        dueSpace(west, "its west, up", 4, 3, -3, 4, -4, 0, 6, -4);
        terms("from so far along it (from the west, from the south) as wide as it is");
        SheetFolds far = of(crossOn(2, "up").replace("from 1 wide 2", "from 0 wide 1"));
        far.lay(1);
        dueSpace(far, "from the south, which is the far end", 2, 2, 9, 0, 3, 12, 0, 4);
        SheetFolds left = of(crossOn(3, "up").replace("from 1 wide 2", "from 0 wide 1"));
        left.lay(1);
        dueSpace(left, "from the west, which is the far end", 2, 1, 0, 9, 3, 0, 12, 4);
    }

    private static void spaceBox() {
        says(15, "Of all FLANGES in SPACE as it is now: 0, 1, 2 how long they are together along x, y, z.");
        SheetFolds x = of(crossOn(0, "up"));
        dueRow("flat: spaceBox(", new int[] {13, 30, 0}, x::spaceBox);
        x.lay(1);
        dueRow("one made: spaceBox(", new int[] {13, 20, 8}, x::spaceBox);
        x.lay(15);
        dueRow("all made: spaceBox(", new int[] {10, 20, 4}, x::spaceBox);
        SheetFolds down = of(crossOn(1, "down"));
        down.lay(1);
        dueRow("below the base, too: spaceBox(", new int[] {10, 21, 8}, down::spaceBox);
        SheetFolds zone = of("sheet thick 1 base 5 5;allow 1 60;flange a on base west from 0 wide 1 high 1 up round 1;");
        dueRow("across a zone: spaceBox(", new int[] {66, 5, 0}, zone::spaceBox);
        dueRow("the base alone: spaceBox(", new int[] {9, 8, 0}, of(SHEET)::spaceBox);
        says(15, "NOTHING for others, or without a part.");
        for (int what : outside(0, 2)) {
            due("spaceBox(" + what + ")", x.spaceBox(what), NOTHING);
        }
        for (int what = 0; what <= 2; what++) {
            due("without a part", new SheetFolds().spaceBox(what), NOTHING);
        }
    }

    private static void gap() {
        says(16, "what lies between them along x, y, z, together (0: nothing along any)");
        SheetFolds x = of(crossOn(0, "up"));
        due("across a zone", x.gap(0, 1), 2);
        due("the other way round", x.gap(1, 0), 2);
        due("along x and y", x.gap(2, 3), 3 + 2);
        due("along x", x.gap(3, 4), 7);
        due("itself", x.gap(4, 4), 0);
        x.lay(1);
        due("made: they touch", x.gap(0, 1), 0);
        due("along z", x.gap(0, 2), 5);
        due("along x and z", x.gap(2, 4), 2 + 2);
        x.lay(3);
        due("along z alone, over the base", x.gap(0, 2), 4);
        due("a corner", x.gap(1, 2), 0);
        SheetFolds heap = of(heap(1, 8, 0, 4, 2));
        due("they overlap", heap.gap(2, 3), 0);
        due("a border", of(heap(1, 8, 0, 4, 1)).gap(2, 3), 0);
        SheetFolds three = of("sheet thick 1 base 9 9;allow 1 5;flange a on base north from 0 wide 2 high 3 up round 1;"
                + "flange b on a north from 0 wide 1 high 1 up round 1;"
                + "flange c on base east from 0 wide 2 high 3 down round 1;"
                + "flange d on c east from 0 wide 1 high 1 up round 1;");
        three.lay(5);
        due("along x, y and z: 8, 8 and 16", three.gap(2, 4), 32);
        says(16, "NONE when there are none such.");
        for (int f : outside(0, 4)) {
            due("gap(" + f + ", 0)", x.gap(f, 0), NONE);
            due("gap(0, " + f + ")", x.gap(0, f), NONE);
            due("gap(" + f + ", " + f + ")", x.gap(f, f), NONE);
        }
        due("without a part", new SheetFolds().gap(0, 0), NONE);
    }

    private static void normal() {
        says(17, "1, 2, 3 along x, y, z, less a sign against these; 0 when there is none such.");
        String[] ways = {"up", "down"};
        int[][] want = {{-2, -1, 2, 1}, {2, 1, -2, -1}};
        for (int way = 0; way < 2; way++) {
            for (int side = 0; side < 4; side++) {
                SheetFolds x = of(crossOn(side, ways[way]));
                due("not made", x.normal(1), 3);
                x.lay(1);
                due(SIDES[side] + ", " + ways[way], x.normal(1), want[way][side]);
                due("the base's", x.normal(0), 3);
            }
        }
        SheetFolds over = of(crossOn(0, "up"));
        over.lay(3);
        due("twice up", over.normal(2), -3);
        for (int f : outside(0, 4)) {
            due("normal(" + f + ")", over.normal(f), 0);
        }
        due("no flange 1", of(SHEET).normal(1), 0);
        due("without a part", new SheetFolds().normal(0), 0);
    }

    private static void clashCalls() {
        says(18, "How many pairs of FLANGES would CLASH in a STATE (k NONE), of the k-th, by the less number, then the"
                + " other one: 10 times that and the other one.");
        SheetFolds x = of("sheet thick 1 base 10 10;allow 1 2;allow 2 3;"
                + "flange a on base north from 0 wide 4 high 8 up round 1;"
                + "flange b on base north from 6 wide 4 high 8 up round 1;"
                + "flange c on a east from 0 wide 2 high 6 up round 2;"
                + "flange d on a east from 3 wide 4 high 6 up round 2;"
                + "flange e on b west from 4 wide 2 high 3 up round 1;");
        int[] pairs = {15, 23, 24};
        due("how many", x.clash(0, NONE), 3);
        for (int k = 0; k < 3; k++) {
            due("clash(0, " + k + ")", x.clash(0, k), pairs[k]);
        }
        due("in another state", x.clash(2, NONE), 0);
        due("the state there is stays", x.has(4), 0);
        says(18, "NONE when there is none such, or no such STATE.");
        for (int k : new int[] {3, Integer.MAX_VALUE, -2, Integer.MIN_VALUE}) {
            due("clash(0, " + k + ")", x.clash(0, k), NONE);
        }
        due("none clash: no first one", x.clash(2, 0), NONE);
        for (int state : outside(0, 31)) {
            due("clash(" + state + ", NONE)", x.clash(state, NONE), NONE);
            due("clash(" + state + ", 0)", x.clash(state, 0), NONE);
        }
        due("the last state", x.clash(31, NONE) >= 0, true);
        due("the base alone", of(SHEET).clash(0, NONE), 0);
        due("no bends, no state 1", of(SHEET).clash(1, NONE), NONE);
        due("all eight", of(eight()).clash(255, NONE), 0);
        due("no state 256", of(eight()).clash(256, NONE), NONE);
        due("without a part", new SheetFolds().clash(0, NONE), NONE);
    }

    /**
     * With all three bends made a and c lie in the plane y 6: a with x 0 .. wide, z 0 .. 4, c with x 6 less high
     * .. 6, z from .. from and 3.
     */
    private static String corner(int wide, int high, int from) {
        return "sheet thick 1 base 6 6;allow 1 0;tool 6;tool 3;tool 4;"
                + "flange a on base north from 0 wide " + wide + " high 4 up round 1;"
                + "flange b on base east from 0 wide 6 high 8 up round 1;"
                + "flange c on b north from " + from + " wide 3 high " + high + " up round 1;";
    }

    private static void clashInOnePlane() {
        terms("Two FLANGES CLASH, if they lie in one plane and share more than a border");
        due("flat, a border", of(heap(1, 8, 0, 4, 1)).clash(0, NONE), 0);
        due("flat, by one", of(heap(1, 8, 0, 4, 2)).clash(0, 0), 23);
        due("flat, a corner", of(heap(1, 4, 4, 4, 1)).clash(0, NONE), 0);
        due("flat, a zone over a flange is no clash", of(heap(6, 8, 0, 4, 1)).clash(0, NONE), 0);
        due("a border", of(corner(3, 3, 0)).clash(7, NONE), 0);
        due("by one along x", of(corner(4, 3, 0)).clash(7, 0), 13);
        due("one pair", of(corner(4, 3, 0)).clash(7, NONE), 1);
        due("a border above", of(corner(4, 3, 4)).clash(7, NONE), 0);
        due("by one along z", of(corner(4, 3, 3)).clash(7, NONE), 1);
        due("a corner", of(corner(3, 3, 4)).clash(7, NONE), 0);
        due("not in one plane", of(corner(4, 3, 0)).clash(3, NONE), 0);
        SheetFolds apart = of("sheet thick 1 base 6 6;allow 1 0;flange a on base north from 0 wide 6 high 1 up round 1;"
                + "flange c on a north from 0 wide 6 high 6 up round 1;");
        due("just over one another", apart.clash(3, NONE), 0);
    }

    /**
     * With all three bends made e hangs down from z 4 to z 4 less high, at x 6, over y 6 less from less wide .. 6
     * less from; the base has x 0 .. baseWide, y 0 .. 6.
     */
    private static String pierce(int baseWide, int from, int wide, int high) {
        return "sheet thick 1 base " + baseWide + " 6;allow 1 0;tool 6;tool 2;tool 1;press 5;"
                + "flange a on base north from 0 wide 6 high 4 up round 1;"
                + "flange c on a north from 0 wide 6 high 10 up round 1;"
                + "flange e on c east from " + from + " wide " + wide + " high " + high + " up round 1;";
    }

    /** As that, but e hangs down at x so. */
    private static String pierceWest(int x) {
        return "sheet thick 1 base 6 6;allow 1 0;press 5;"
                + "flange a on base north from " + x + " wide 4 high 4 up round 1;"
                + "flange c on a north from 0 wide 4 high 10 up round 1;"
                + "flange e on c west from 0 wide 2 high 5 up round 1;";
    }

    private static void clashAtRightAngles() {
        terms("or if they stand at right angles, each one's plane lies truly between the ends of the other one along that");
        due("at the end of the base", of(pierce(6, 0, 2, 5)).clash(7, NONE), 0);
        due("one within it", of(pierce(7, 0, 2, 5)).clash(7, 0), 3);
        due("it just stands on the base", of(pierce(7, 0, 2, 4)).clash(7, NONE), 0);
        due("at the other end of the base", of(pierceWest(0)).clash(7, NONE), 0);
        due("one within that", of(pierceWest(1)).clash(7, 0), 3);
        due("not made, it hangs over the base", of(pierce(7, 0, 2, 5)).clash(3, NONE), 0);
        terms("and they share more than a point along the line in which planes meet");
        due("a point", of(pierce(7, 6, 3, 5)).clash(7, NONE), 0);
        due("one more", of(pierce(7, 5, 3, 5)).clash(7, NONE), 1);
        due("nothing", of(pierce(7, 7, 3, 5)).clash(7, NONE), 0);
        due("a flange and its parent share a border", of(pierce(7, 0, 2, 5)).clash(1, NONE), 0);
        due("all below the base, a clash as well", of(pierce(7, 0, 2, 5).replace("up", "down")).clash(7, 0), 3);
    }

    private static void meetsCalls() {
        says(19, "FLANGES that the PUNCH of a BEND MEETS in a STATE in which that is not MADE (bits, 1 for the BASE ..)");
        SheetFolds x = of(pierce(7, 0, 2, 5));
        due("the base", x.meets(3, 3), 1);
        due("none", x.meets(3, 0), 0);
        due("the state there is stays", x.has(4), 0);
        SheetFolds many = of(over(0, 6, 3, 10, 2, 4));
        many.press(6);
        due("two of them", many.meets(1, 14), 8 + 16);
        says(19, "NONE when there are none such.");
        due("it is made", x.meets(3, 7), NONE);
        for (int b : outside(1, 3)) {
            due("meets(" + b + ", 0)", x.meets(b, 0), NONE);
        }
        for (int state : outside(0, 7)) {
            due("meets(1, " + state + ")", x.meets(1, state), NONE);
        }
        due("the last state without it", x.meets(1, 6) >= 0, true);
        due("no bends", of(SHEET).meets(1, 0), NONE);
        due("without a part", new SheetFolds().meets(1, 0), NONE);
        SheetFolds eight = of(eight());
        due("the eighth bend", eight.meets(8, 127), 0);
        due("no state 256", eight.meets(8, 256), NONE);
    }

    private static void meetsInItsPlane() {
        terms("The PUNCH of a BEND is a plane piece that stands on its PARENT's SIDE where it hangs, as wide as it, as high"
                + " as the press tells, along its PARENT's normal (up), or against it (down)");
        due("a border along x", of(corner(3, 3, 0)).meets(1, 6), 0);
        due("by one along x", of(corner(4, 3, 0)).meets(1, 6), 8);
        due("down, it is below", of(corner(4, 3, 0).replace("high 4 up", "high 4 down")).meets(1, 6), 0);
        SheetFolds x = of(corner(4, 3, 4));
        x.press(4);
        due("just up to it", x.meets(1, 6), 0);
        x.press(5);
        due("by one along z", x.meets(1, 6), 8);
        x.press(99);
        due("the highest", x.meets(1, 6), 8);
        SheetFolds down = of(corner(4, 3, 4).replace("up", "down"));
        down.press(4);
        due("down, just to it", down.meets(1, 6), 0);
        down.press(5);
        due("down, by one", down.meets(1, 6), 8);
        SheetFolds from = of(corner(3, 3, 0).replace("north from 0 wide 3 high 4", "north from 1 wide 3 high 4"));
        due("where it hangs", from.meets(1, 6), 8);
        due("not made, c is not in its plane", of(corner(4, 3, 0)).meets(1, 2), 0);
    }

    /**
     * With bends 2, 3, 4 made c lies at z 5 over x 0 .. 3, y 0 .. highC, and e hangs down from it at x 3 to z 2,
     * over y 10 less from less wide .. 10 less from if c is 10 high. Bend 1 is on the line y 6, z 0.
     */
    private static String over(int fromA, int wideA, int highE, int highC, int fromE, int wideE) {
        return "sheet thick 1 base 6 6;allow 1 0;press 3;"
                + "flange a on base north from " + fromA + " wide " + wideA + " high 1 up round 1;"
                + "flange s on base south from 0 wide 3 high 5 up round 1;"
                + "flange c on s south from 0 wide 3 high " + highC + " up round 1;"
                + "flange e on c east from " + fromE + " wide " + wideE + " high " + highE + " up round 1;";
    }

    private static void meetsAtRightAngles() {
        terms("it MEETS a FLANGE as FLANGES CLASH");
        SheetFolds x = of(over(0, 6, 3, 10, 2, 4));
        due("e is above by one", x.meets(1, 14), 16);
        x.press(2);
        due("just up to e", x.meets(1, 14), 0);
        x.press(5);
        due("just up to c", x.meets(1, 14), 16);
        x.press(6);
        due("c, too", x.meets(1, 14), 24);
        due("its plane at the near end of e", of(over(0, 6, 3, 10, 0, 4)).meets(1, 14), 0);
        due("one within", of(over(0, 6, 3, 10, 1, 4)).meets(1, 14), 16);
        due("its plane at the far end of e", of(over(0, 6, 3, 10, 4, 4)).meets(1, 14), 0);
        due("one within", of(over(0, 6, 3, 10, 3, 4)).meets(1, 14), 16);
        due("e at the punch's end", of(over(0, 3, 3, 10, 2, 4)).meets(1, 14), 0);
        due("e one within", of(over(0, 4, 3, 10, 2, 4)).meets(1, 14), 16);
        due("e at the punch's other end", of(over(3, 3, 3, 10, 2, 4)).meets(1, 14), 0);
        due("e one within", of(over(2, 3, 3, 10, 2, 4)).meets(1, 14), 16);
        SheetFolds end = of(over(0, 6, 1, 6, 0, 1));
        end.press(9);
        due("its plane at the end of c", end.meets(1, 14), 0);
        SheetFolds within = of(over(0, 6, 1, 7, 6, 1));
        within.press(9);
        due("its plane within c", within.meets(1, 14), 8);
        SheetFolds point = of(over(3, 3, 1, 10, 9, 1));
        point.press(9);
        due("a point along c", point.meets(1, 14), 0);
        SheetFolds more = of(over(2, 3, 1, 10, 9, 1));
        more.press(9);
        due("more than a point", more.meets(1, 14), 8);
        due("the base at its end", of(pierce(6, 0, 2, 5)).meets(3, 3), 0);
        due("the base within", of(pierce(7, 0, 2, 5)).meets(3, 3), 1);
        due("a point along the base", of(pierce(7, 6, 3, 5)).meets(3, 3), 0);
        due("more than a point along the base", of(pierce(7, 5, 3, 5)).meets(3, 3), 1);
        SheetFolds lower = of(pierce(7, 0, 2, 5));
        lower.press(4);
        due("just down to the base", lower.meets(3, 3), 0);
        due("turned, it goes away from the base", of(pierce(7, 0, 2, 5).replace("high 5 up", "high 5 down")).meets(3, 3), 0);
    }

    private static void tools() {
        terms("some TOOLS (each once) are together as wide as its FLANGE");
        String one = SHEET + A;
        due("just as wide", of(one + "tool 5;").tools(1, 0), 1);
        due("one wider", of(one + "tool 6;").tools(1, 0), NONE);
        due("one narrower", of(one + "tool 4;").tools(1, 0), NONE);
        due("no tools", of(one).tools(1, 0), NONE);
        due("each once", of(one.replace("wide 5", "wide 4") + "tool 2;").tools(1, 0), NONE);
        due("two like ones", of(one.replace("wide 5", "wide 4") + "tool 2;tool 2;").tools(1, 0), 3);
        terms("The TOOLS of a BEND are the fewest that do, of like ones the least bits (by TOOLS as told, 0 lowest).");
        due("one for two", of(one + "tool 2;tool 3;tool 5;").tools(1, 0), 4);
        due("of two the first", of(one + "tool 5;tool 5;").tools(1, 0), 1);
        due("0 and 3 or 1 and 2", of(one + "tool 1;tool 2;tool 3;tool 4;").tools(1, 0), 6);
        due("0 and 2 or 1 and 3", of(one + "tool 1;tool 2;tool 4;tool 3;").tools(1, 0), 5);
        due("all eight", of("sheet thick 1 base 8 8;flange a on base north from 0 wide 8 high 1 up round 1;"
                + "tool 1;".repeat(8)).tools(1, 0), 255);
        due("the eighth", of(one + "tool 60;".repeat(7) + "tool 5;").tools(1, 0), 128);
        says(20, "TOOLS of a BEND, as bits (what 0), how many (1); NONE when no TOOLS do, there is none such, or for"
                + " others.");
        SheetFolds x = of(one + "tool 1;tool 2;tool 3;tool 4;");
        due("how many", x.tools(1, 1), 2);
        due("eight", of("sheet thick 1 base 8 8;flange a on base north from 0 wide 8 high 1 up round 1;"
                + "tool 1;".repeat(8)).tools(1, 1), 8);
        due("none do, how many", of(one).tools(1, 1), NONE);
        for (int b : outside(1, 1)) {
            due("tools(" + b + ", 0)", x.tools(b, 0), NONE);
            due("tools(" + b + ", 1)", x.tools(b, 1), NONE);
        }
        for (int what : outside(0, 1)) {
            due("tools(1, " + what + ")", x.tools(1, what), NONE);
        }
        due("no bends", of(SHEET + "tool 5;").tools(1, 0), NONE);
        due("without a part", new SheetFolds().tools(1, 0), NONE);
        x.lay(1);
        due("of a bend that is made, too", x.tools(1, 0), 6);
    }

    private static void reasons() {
        terms("REASONS why it isn't, the first of these: 1 it is MADE; 2 TOOLS; 3 its PUNCH MEETS a FLANGE; 4 two FLANGES"
                + " CLASH then. (0: it is CLEAR.)");
        SheetFolds x = of(pierce(7, 0, 2, 5));
        due("its punch, ahead of a clash", x.why(3, 3), 3);
        x.press(4);
        due("a clash alone", x.why(3, 3), 4);
        due("made, ahead of all", x.why(3, 7), 1);
        SheetFolds lacking = of(pierce(7, 0, 2, 5).replace("tool 2;tool 1;", ""));
        due("tools, ahead of the punch", lacking.why(3, 3), 2);
        due("made, ahead of tools", lacking.why(3, 7), 1);
        lacking.press(4);
        due("tools, ahead of a clash", lacking.why(3, 3), 2);
        terms("its PUNCH MEETS no FLANGE, and, it being MADE, too, no two FLANGES CLASH.");
        SheetFolds stands = of(pierce(7, 0, 2, 4));
        stands.press(4);
        due("clear: it just stands on the base", stands.why(3, 3), 0);
        stands.press(5);
        due("its punch alone", stands.why(3, 3), 3);
        SheetFolds heap = of(heap(1, 8, 0, 4, 2) + "tool 4;flange d on base south from 0 wide 4 high 1 up round 1;");
        due("a clash of others that goes on", heap.why(4, 0), 4);
        due("a clash that ends by it", heap.why(3, 0), 0);
        says(21, "The first of REASONS why a BEND is not CLEAR in a STATE (0: it is); NONE when there are none such.");
        for (int b : outside(1, 3)) {
            due("why(" + b + ", 0)", x.why(b, 0), NONE);
        }
        for (int state : outside(0, 7)) {
            due("why(1, " + state + ")", x.why(1, state), NONE);
        }
        due("the last state", x.why(1, 7), 1);
        due("no bends", of(SHEET).why(1, 0), NONE);
        due("without a part", new SheetFolds().why(1, 0), NONE);
        SheetFolds eight = of(eight() + "tool 1;");
        due("the eighth bend", eight.why(8, 127), 0);
        due("the eighth bend, made", eight.why(8, 128), 1);
    }
}
