/** The edges of Terms III and of the promises 22 to 35: orders of bends, and what is asked about them. */
final class OrderEdges extends Check {
    /** Three bends that roll up over the base; its third punch would go down through the base at the last. */
    private static final String ROLL = "sheet thick 1 base 6 6;tool 6;allow 1 0;"
            + "flange a on base north from 0 wide 6 high 4 up round 1;"
            + "flange c on a north from 0 wide 6 high 4 up round 1;"
            + "flange d on c north from 0 wide 6 high 3 up round 1;";
    /** As that, but the third flange would go through the base itself. */
    private static final String DEEP = ROLL.replace("high 3", "high 5");
    /** Two of these, so far from one another that none hinders the other one. */
    private static final String TWO_ROLLS = ROLL.replace("base 6 6", "base 6 30") + "press 10;"
            + "flange e on base south from 0 wide 6 high 4 up round 1;"
            + "flange f on e south from 0 wide 6 high 4 up round 1;"
            + "flange g on f south from 0 wide 6 high 3 up round 1;";
    /** Five bends that roll up below one another. */
    private static final String SPIRAL = "sheet thick 2 base 4 7;tool 1;press 7;"
            + "flange a on base south from 0 wide 1 high 2 up round 1;flange b on a south from 0 wide 1 high 5 up round 3;"
            + "flange c on b south from 0 wide 1 high 2 up round 2;flange d on c south from 0 wide 1 high 6 up round 2;"
            + "flange e on d south from 0 wide 1 high 7 up round 3;";
    /** Three bends of which none hinders another one: up, down, up; tools 1, 8, 8. */
    private static final String CROSS = "sheet thick 1 base 6 6;tool 4;tool 3;tool 3;tool 6;"
            + "flange a on base north from 0 wide 4 high 2 up round 1;"
            + "flange b on base east from 0 wide 6 high 2 down round 1;"
            + "flange c on base south from 0 wide 6 high 2 up round 9;";

    private OrderEdges() {
    }

    static void all() {
        orders();
        order();
        mayBeLast();
        ahead();
        reached();
        fewest();
        thrifty();
        tallest();
        turned();
        mends();
        lacks();
        opens();
        smallest();
        between();
    }

    private static SheetFolds at(String text, int state) {
        SheetFolds x = of(text);
        due("lay(" + state + ")", x.lay(state), true);
        return x;
    }

    /** Eight bends of which none hinders another one. */
    private static String star() {
        StringBuilder text = new StringBuilder("sheet thick 1 base 60 60;tool 6;");
        String[] sides = {"north", "east", "south", "west"};
        for (int i = 0; i < 8; i++) {
            text.append("flange ").append((char) ('a' + i)).append(" on base ").append(sides[i % 4]);
            text.append(" from ").append(i / 4 * 20).append(" wide 6 high 4 up round 1;");
        }
        return text.toString();
    }

    private static void orders() {
        terms("An ORDER is a row of all BENDS that are not MADE yet, each CLEAR behind those ahead of it.");
        due("d is not the last", of(ROLL).orders(), 4);
        due("behind a", at(ROLL, 1).orders(), 1);
        due("behind d", at(ROLL, 4).orders(), 2);
        due("one is left", at(ROLL, 5).orders(), 1);
        due("two rolls", of(TWO_ROLLS).orders(), 320);
        due("any of eight", of(star()).orders(), 40320);
        due("any of seven", at(star(), 128).orders(), 5040);
        says(22, "How many ORDERS there are (1, if all BENDS are MADE); NONE without a part.");
        due("all made", at(ROLL, 7).orders(), 1);
        due("all made, without tools", at(ROLL.replace("tool 6", "tool 5"), 7).orders(), 1);
        due("all eight made", at(star(), 255).orders(), 1);
        due("no bends", of(SHEET).orders(), 1);
        due("none", at(ROLL, 3).orders(), 0);
        due("none, for its tools", of(ROLL.replace("tool 6", "tool 5")).orders(), 0);
        due("without a part", new SheetFolds().orders(), NONE);
    }

    private static void dueOrder(SheetFolds x, int... want) {
        for (int k = 0; k < want.length; k++) {
            due("order(" + k + ")", x.order(k), want[k]);
        }
        for (int k : outside(0, want.length - 1)) {
            due("order(" + k + ")", x.order(k), NONE);
        }
    }

    private static void order() {
        terms("THE ORDER is the first by numbers.");
        dueOrder(of(ROLL), 1, 3, 2);
        dueOrder(at(ROLL, 2), 3, 1);
        dueOrder(of(CROSS), 1, 2, 3);
        dueOrder(of(TWO_ROLLS), 1, 3, 2, 4, 6, 5);
        says(23, "The k-th BEND of THE ORDER; NONE when there is none such.");
        dueOrder(of(star()), 1, 2, 3, 4, 5, 6, 7, 8);
        dueOrder(at(star(), 127), 8);
        dueOrder(at(ROLL, 7));
        dueOrder(at(ROLL, 3));
        dueOrder(of(SHEET));
        dueOrder(new SheetFolds());
    }

    private static void mayBeLast() {
        says(24, "Whether a BEND is the last of some ORDER: 1, 0; NONE when it is MADE, or there is none such.");
        SheetFolds x = of(ROLL);
        int[] want = {1, 1, 0};
        for (int b = 1; b <= 3; b++) {
            due("mayBeLast(" + b + ")", x.mayBeLast(b), want[b - 1]);
        }
        for (int b : outside(1, 3)) {
            due("mayBeLast(" + b + ")", x.mayBeLast(b), NONE);
        }
        SheetFolds y = at(ROLL, 1);
        due("made", y.mayBeLast(1), NONE);
        due("the only order ends with it", y.mayBeLast(2), 1);
        due("the only order begins with it", y.mayBeLast(3), 0);
        due("the one that is left", at(ROLL, 5).mayBeLast(2), 1);
        due("no order, though it alone is left", at(ROLL, 3).mayBeLast(3), 0);
        due("no order", of(DEEP).mayBeLast(1), 0);
        due("clear at last, but not reached", of(ROLL + "flange e on base east from 0 wide 5 high 1 up round 1;")
                .mayBeLast(1), 0);
        due("no bends", of(SHEET).mayBeLast(1), NONE);
        due("without a part", new SheetFolds().mayBeLast(1), NONE);
        due("the eighth", of(star()).mayBeLast(8), 1);
    }

    private static void ahead() {
        says(25, "Whether a BEND comes ahead of another one in each ORDER: 1, 0");
        SheetFolds one = at(ROLL, 1);
        due("in each", one.ahead(3, 2), 1);
        due("in none", one.ahead(2, 3), 0);
        SheetFolds x = of(ROLL);
        due("in three of four", x.ahead(3, 2), 0);
        due("in one of four", x.ahead(2, 3), 0);
        SheetFolds two = at(TWO_ROLLS, 1);
        due("in each, others between", two.ahead(3, 2), 1);
        due("of the other roll", two.ahead(3, 4), 0);
        says(25, "NONE when there is no ORDER, one is MADE, both are one, or there are none such.");
        due("no order", of(DEEP).ahead(1, 2), NONE);
        due("the first is made", one.ahead(1, 2), NONE);
        due("the second is made", one.ahead(2, 1), NONE);
        due("both are one", x.ahead(2, 2), NONE);
        for (int b : outside(1, 3)) {
            due("ahead(" + b + ", 1)", x.ahead(b, 1), NONE);
            due("ahead(1, " + b + ")", x.ahead(1, b), NONE);
        }
        due("all are made", at(ROLL, 7).ahead(1, 2), NONE);
        due("the seventh and the eighth", of(star()).ahead(7, 8), 0);
        due("without a part", new SheetFolds().ahead(1, 2), NONE);
    }

    private static void dueReached(String when, SheetFolds x, int... want) {
        for (int what = 0; what < 4; what++) {
            due(when + ": reached(" + what + ")", x.reached(what), want[what]);
        }
        for (int what : outside(0, 3)) {
            due(when + ": reached(" + what + ")", x.reached(what), NONE);
        }
    }

    private static void reached() {
        terms("it can be REACHED, if it comes of the one there is by BENDS that are CLEAR, one behind the other (the one there"
                + " is, too)");
        due("nothing is clear", at(ROLL, 3).reached(0), 1);
        due("all made", at(ROLL, 7).reached(0), 1);
        due("what lies behind alone", at(ROLL, 4).reached(0), 4);
        due("all states but the one with all", of(DEEP).reached(0), 7);
        terms("A DEAD END is one that can be REACHED, where some BEND is not MADE, and none is CLEAR.");
        due("one", of(ROLL).reached(1), 1);
        due("it can't be reached", at(ROLL, 4).reached(1), 0);
        due("all are made", at(ROLL, 7).reached(1), 0);
        terms("BLOCKED are BENDS not MADE that are CLEAR in no STATE that can be REACHED.");
        due("clear in some", of(ROLL).reached(3), 0);
        due("clear, but not where it can be reached", at(ROLL, 3).reached(3), 4);
        due("made, so not blocked", at(ROLL.replace("tool 6", "tool 5"), 2).reached(3), 5);
        due("no order, but none blocked", of(DEEP).reached(3), 0);
        says(26, "How many STATES can be REACHED (what 0), DEAD ENDS (1), the DEAD END with most BENDS MADE, of like ones the"
                + " least bits (2; NONE without any), BLOCKED BENDS, as bits (3).");
        dueReached("two rolls", of(TWO_ROLLS), 64, 3, 31, 0);
        dueReached("both at an end", at(TWO_ROLLS, 27), 1, 1, 27, 36);
        dueReached("one at an end", at(TWO_ROLLS, 3), 8, 2, 59, 4);
        dueReached("eight", of(star()), 256, 0, NONE, 0);
        dueReached("eight without tools", of(star().replace("tool 6", "tool 5")), 1, 1, 0, 255);
        says(26, "NONE for others, or without a part.");
        dueReached("no bends", of(SHEET), 1, 0, NONE, 0);
        dueReached("without a part", new SheetFolds(), NONE, NONE, NONE, NONE);
    }

    private static void fewest() {
        terms("FLIPS of an ORDER: how often a BEND goes another WAY than the one ahead of it; CHANGES: how often a BEND has other"
                + " TOOLS than the one ahead.");
        SheetFolds x = of(CROSS);
        due("up, up, down", x.fewest(0), 1);
        due("one change", x.fewest(1), 1);
        x.turn(2);
        due("all up", x.fewest(0), 0);
        due("a turn changes no tools", x.fewest(1), 1);
        x.lay(2);
        due("nothing is ahead of the first", x.fewest(0), 0);
        due("two bends with other tools", x.fewest(1), 1);
        SheetFolds row = at(ROLL, 1);
        row.turn(3);
        due("not down, so all six go, one flip", row.fewest(0), 1);
        due("like tools", row.fewest(1), 0);
        due("like bits alone are like tools", of(CROSS.replace("tool 4", "tool 6").replace("wide 4", "wide 6")
                .replace("tool 6;flange", "flange")).fewest(1), 0);
        says(27, "NONE without an ORDER, or for others.");
        for (int what = 0; what < 2; what++) {
            due("no order", at(ROLL, 3).fewest(what), NONE);
            due("all made", at(ROLL, 7).fewest(what), 0);
            due("one left", at(CROSS, 3).fewest(what), 0);
            due("no bends", of(SHEET).fewest(what), 0);
            due("without a part", new SheetFolds().fewest(what), NONE);
        }
        for (int what : outside(0, 1)) {
            due("fewest(" + what + ")", x.fewest(what), NONE);
        }
        StringBuilder tools = new StringBuilder("sheet thick 1 base 60 60;");
        for (int i = 1; i <= 8; i++) {
            tools.append("tool ").append(i).append(";flange ").append((char) ('a' + i)).append(" on base ");
            tools.append(i < 5 ? "north" : "south").append(" from ").append(i % 4 * 12).append(" wide ").append(i);
            tools.append(" high 1 ").append(i % 2 == 0 ? "up" : "down").append(" round 1;");
        }
        due("eight unlike tools", of(tools.toString()).fewest(1), 7);
        due("four each way", of(tools.toString()).fewest(0), 1);
    }

    private static void dueThrifty(SheetFolds x, int what, int... want) {
        for (int k = 0; k < want.length; k++) {
            due("thrifty(" + what + ", " + k + ")", x.thrifty(what, k), want[k]);
        }
        for (int k : outside(0, want.length - 1)) {
            due("thrifty(" + what + ", " + k + ")", x.thrifty(what, k), NONE);
        }
    }

    private static void thrifty() {
        says(28, "The k-th BEND of the first ORDER, by numbers, that has the fewest FLIPS (what 0), CHANGES (1); NONE when there"
                + " is none such, or for others.");
        SheetFolds x = of(CROSS);
        dueThrifty(x, 0, 1, 3, 2);
        dueThrifty(x, 1, 1, 2, 3);
        SheetFolds mixed = of(CROSS.replace("east from 0 wide 6", "east from 0 wide 4").replace("north from 0 wide 4",
                "north from 0 wide 6"));
        dueThrifty(mixed, 1, 1, 3, 2);
        SheetFolds from = at(CROSS, 1);
        dueThrifty(from, 0, 2, 3);
        dueThrifty(at(CROSS, 5), 0, 2);
        SheetFolds two = of(TWO_ROLLS);
        two.turn(4);
        dueThrifty(two, 0, 1, 3, 2, 5, 6, 4);
        dueThrifty(of(star()), 1, 1, 2, 3, 4, 5, 6, 7, 8);
        for (int what = 0; what < 2; what++) {
            dueThrifty(at(ROLL, 3), what);
            dueThrifty(at(ROLL, 7), what);
            dueThrifty(of(SHEET), what);
            dueThrifty(new SheetFolds(), what);
        }
        for (int what : outside(0, 1)) {
            due("thrifty(" + what + ", 0)", x.thrifty(what, 0), NONE);
        }
    }

    /** With bends 1 and 3 made the fourth punch goes down from z 60 and high to the base. */
    private static String tower(int high) {
        return "sheet thick 1 base 6 6;tool 6;allow 1 0;"
                + "flange a on base north from 0 wide 6 high 60 up round 1;"
                + "flange t on a north from 0 wide 6 high " + high + " up round 1;"
                + "flange c on t north from 0 wide 6 high 4 up round 1;"
                + "flange d on c north from 0 wide 6 high 1 up round 1;";
    }

    private static void tallest() {
        says(29, "How high the PUNCH may be at the most (1 .. 99) so that there is an ORDER; NONE when by none, or without a"
                + " part.");
        due("down to the base from 98", at(tower(38), 5).tallest(), 98);
        due("from 99", at(tower(39), 5).tallest(), 99);
        due("from 100", at(tower(40), 5).tallest(), 99);
        SheetFolds x = at(tower(38), 5);
        x.press(99);
        due("99 is too high", x.orders(), 0);
        due("whatever the press is", x.tallest(), 98);
        x.press(98);
        due("98 is not", x.orders() > 0, true);
        String low = ROLL.replace("high 4 up round 1;flange c", "high 1 up round 1;flange c").replace("high 3", "high 1");
        due("the lowest", at(low, 3).tallest(), 1);
        due("all made", at(ROLL, 7).tallest(), 99);
        due("no bends", of(SHEET).tallest(), 99);
        due("nothing in the way", of(star()).tallest(), 99);
        due("a clash by any", of(DEEP).tallest(), NONE);
        due("no tools by any", of(ROLL.replace("tool 6", "tool 5")).tallest(), NONE);
        due("no tools but for what is made", at(ROLL.replace("tool 6", "tool 5"), 7).tallest(), 99);
        SheetFolds again = at(ROLL, 3);
        due("down to the base", again.tallest(), 4);
        again.turn(3);
        due("turned, away from it", again.tallest(), 99);
        again.turn(3);
        due("turned back", again.tallest(), 4);
        due("along y from 20 to 5", at("sheet thick 1 base 6 20;tool 6;allow 1 0;"
                + "flange a on base north from 0 wide 6 high 4 up round 1;"
                + "flange c on a north from 0 wide 6 high 1 up round 1;"
                + "flange s on base south from 0 wide 6 high 2 up round 1;"
                + "flange t on s south from 0 wide 6 high 5 up round 1;"
                + "flange u on t south from 0 wide 6 high 3 down round 1;", 29).tallest(), 15);
        String over = "sheet thick 1 base 6 6;allow 1 0;tool 6;"
                + "flange a on base north from 0 wide 6 high 1 up round 1;"
                + "flange s on base south from 0 wide 3 high 5 up round 1;"
                + "flange c on s south from 0 wide 3 high 10 up round 1;"
                + "flange e on c east from 2 wide 4 high 4 up round 1;";
        due("something is one above its line", at(over, 14).tallest(), 1);
        due("something stands on its line", at(over.replace("wide 4 high 4", "wide 4 high 5"), 14).tallest(), NONE);
        SheetFolds stands = at("sheet thick 1 base 10 10;tool 10;tool 4;tool 15;allow 1 0;press 1;"
                + "flange b on base west from 0 wide 10 high 5 up round 1;"
                + "flange c on b west from 0 wide 10 high 20 up round 1;"
                + "flange d on c west from 0 wide 10 high 5 up round 1;"
                + "flange p on base east from 2 wide 4 high 15 down round 1;"
                + "flange a on p north from 0 wide 15 high 3 up round 1;", 7);
        due("something stands on the line of a", stands.why(5, 7), 3);
        due("so the other one goes ahead", stands.order(0), 4);
        due("then nothing is in the way", stands.tallest(), 99);
        due("without a part", new SheetFolds().tallest(), NONE);
    }

    private static void turned() {
        says(30, "How many ORDERS there were, were a BEND turned; NONE when it is MADE, or there is none such.");
        SheetFolds x = of(ROLL);
        due("d goes away from the base", x.turned(3), 6);
        due("all stays: the way", x.flange(3, 5), 1);
        due("all stays: orders", x.orders(), 4);
        due("all stays: acts", x.has(6), 0);
        due("none", at(ROLL.replace("high 3 up", "high 3 down"), 3).turned(3), 0);
        due("one", at(ROLL, 3).turned(3), 1);
        due("made", at(ROLL, 3).turned(1), NONE);
        for (int b : outside(1, 3)) {
            due("turned(" + b + ")", x.turned(b), NONE);
        }
        due("the eighth", of(star()).turned(8), 40320);
        due("no bends", of(SHEET).turned(1), NONE);
        due("without a part", new SheetFolds().turned(1), NONE);
    }

    private static void mends() {
        says(31, "The fewest BENDS that would have to be turned so that there is an ORDER, as bits, of like many the least bits"
                + " (none of those that are MADE; 0: none has to be); NONE when by none, or without a part.");
        due("none has to be", of(ROLL).mends(), 0);
        due("all made", at(ROLL, 7).mends(), 0);
        due("no bends", of(SHEET).mends(), 0);
        SheetFolds deep = of(DEEP);
        for (int b = 1; b <= 3; b++) {
            due("each would do", deep.turned(b) > 0, true);
        }
        due("of like many the least", deep.mends(), 1);
        due("all stays", deep.flange(1, 5), 1);
        due("none that is made", at(DEEP, 1).mends(), 2);
        due("nor those that are made", at(DEEP, 3).mends(), 4);
        due("of the others", at(DEEP, 6).mends(), 1);
        due("two", at(TWO_ROLLS, 27).mends(), 36);
        due("one of two rolls", at(TWO_ROLLS, 3).mends(), 4);
        SheetFolds spiral = of(SPIRAL);
        due("no order", spiral.orders(), 0);
        due("not the first alone", spiral.turned(1), 0);
        due("not the second alone", spiral.turned(2), 0);
        due("the third alone", spiral.turned(3) > 0, true);
        due("one with greater bits rather than two", spiral.mends(), 4);
        spiral.turn(1);
        spiral.turn(2);
        due("though the first and the second would do", spiral.mends(), 0);
        due("by none, for its tools", of(ROLL.replace("tool 6", "tool 5")).mends(), NONE);
        String lacking = "flange e on base east from 0 wide 5 high 1 up round 1;";
        due("by none, for the tools of the first", of(DEEP.replace("allow 1 0;", "allow 1 0;" + lacking)).mends(), NONE);
        due("by none, for the tools of the last", of(DEEP + lacking).mends(), NONE);
        due("tools lack for what is made alone", at(DEEP + "flange e on base east from 0 wide 5 high 1 up round 1;", 8)
                .mends(), 1);
        SheetFolds shut = of("sheet thick 1 base 10 10;tool 4;tool 10;allow 1 0;"
                + "flange a on base north from 0 wide 4 high 8 up round 1;"
                + "flange b on base south from 0 wide 10 high 8 up round 1;"
                + "flange c on base north from 6 wide 4 high 8 up round 1;"
                + "flange d on a east from 0 wide 4 high 4 up round 1;");
        due("flat it clashes", shut.clash(0, NONE), 1);
        due("none has to be, one that ends the clash goes first", shut.mends(), 0);
        due("so b is not the first", shut.order(0), 1);
        due("without a part", new SheetFolds().mends(), NONE);
    }

    private static void lacks() {
        says(32, "The least WIDTH of a FLANGE for which no TOOLS do (what 0), how many BENDS have none (1). NONE when each has"
                + " some (1: 0), without a part, or for others.");
        SheetFolds x = of(CROSS.replace("tool 6;", "tool 2;").replace("tool 3;tool 3;", ""));
        due("4 and 2 are 6", x.lacks(0), NONE);
        due("none lacks", x.lacks(1), 0);
        SheetFolds y = of(CROSS.replace("tool 4;tool 3;tool 3;tool 6;", "tool 5;"));
        due("the least", y.lacks(0), 4);
        due("three", y.lacks(1), 3);
        SheetFolds z = of(CROSS.replace("tool 3;tool 3;tool 6;", ""));
        due("the least of two like ones", z.lacks(0), 6);
        due("two", z.lacks(1), 2);
        z.lay(7);
        due("of bends that are made, too", z.lacks(1), 2);
        for (int what : outside(0, 1)) {
            due("lacks(" + what + ")", z.lacks(what), NONE);
        }
        due("no bends", of(SHEET).lacks(0), NONE);
        due("no bends", of(SHEET).lacks(1), 0);
        due("all eight", of(star().replace("tool 6;", "")).lacks(1), 8);
        due("the least of eight", of(star().replace("tool 6;", "")).lacks(0), 6);
        due("without a part", new SheetFolds().lacks(0), NONE);
        due("without a part", new SheetFolds().lacks(1), NONE);
    }

    private static void opens() {
        says(33, "BENDS that are MADE and can be opened, as bits; NONE without a part.");
        due("none made", of(ROLL).opens(), 0);
        due("all made", at(ROLL, 7).opens(), 7);
        due("two made", at(ROLL, 5).opens(), 5);
        String heap = "sheet thick 1 base 10 10;tool 4;allow 1 0;allow 2 1;"
                + "flange a on base north from 0 wide 4 high 8 up round 1;"
                + "flange b on base north from 6 wide 4 high 8 up round 1;"
                + "flange c on a east from 0 wide 4 high 6 up round 2;";
        due("the only one that keeps them apart", at(heap, 4).opens(), 0);
        due("either of two", at(heap, 6).opens(), 6);
        due("without tools", at(ROLL.replace("tool 6", "tool 5"), 7).opens(), 7);
        due("all eight", at(star(), 255).opens(), 255);
        due("no bends", of(SHEET).opens(), 0);
        due("without a part", new SheetFolds().opens(), NONE);
    }

    private static void smallest() {
        says(34, "Of STATES that can be REACHED the one in which all FLANGES in SPACE are together shortest along x, y, z, these"
                + " added, of like ones the least bits (what 0); how long that is (1). NONE without a part, or for others.");
        SheetFolds x = of(ROLL);
        due("all made", x.smallest(0), 7);
        due("6, 6 and 4", x.smallest(1), 16);
        due("what can't be reached", at(ROLL, 3).smallest(0), 3);
        due("6, 7 and 4", at(ROLL, 3).smallest(1), 17);
        due("no tools: as it is", of(ROLL.replace("tool 6", "tool 5")).smallest(0), 0);
        due("6, 17 and 0", of(ROLL.replace("tool 6", "tool 5")).smallest(1), 23);
        String one = "sheet thick 1 base 6 6;allow 1 0;tool 6;flange a on base north from 0 wide 6 high 6 up round 1;";
        due("of like ones the least", of(one).smallest(0), 0);
        due("6, 12 and 0, or 6, 6 and 6", of(one).smallest(1), 18);
        due("one shorter", of(one.replace("allow 1 0", "allow 1 1")).smallest(0), 1);
        due("the same, 6, 6 and 6", of(one.replace("allow 1 0", "allow 1 1")).smallest(1), 18);
        due("no bends", of(SHEET).smallest(0), 0);
        due("the base alone", of(SHEET).smallest(1), 17);
        for (int what : outside(0, 1)) {
            due("smallest(" + what + ")", x.smallest(what), NONE);
        }
        due("without a part", new SheetFolds().smallest(0), NONE);
        due("without a part", new SheetFolds().smallest(1), NONE);
    }

    private static void between() {
        says(35, "How many BENDS lie between two FLANGES: those by which one comes from the one to the other; NONE when there are"
                + " none such.");
        SheetFolds x = of(TWO_ROLLS);
        due("itself", x.between(3, 3), 0);
        due("the base itself", x.between(0, 0), 0);
        due("its parent", x.between(2, 1), 1);
        due("the base", x.between(0, 3), 3);
        due("the one and the other end", x.between(3, 6), 6);
        due("the other way round", x.between(6, 3), 6);
        due("all made: the same", at(TWO_ROLLS, 63).between(6, 3), 6);
        SheetFolds fork = of("sheet thick 1 base 6 6;flange a on base north from 0 wide 6 high 6 up round 1;"
                + "flange b on a north from 0 wide 6 high 6 up round 1;flange c on a east from 0 wide 6 high 6 up round 1;"
                + "flange d on b north from 0 wide 6 high 6 up round 1;");
        due("not by the base", fork.between(3, 4), 3);
        due("beside one another", fork.between(2, 3), 2);
        due("two in the row", fork.between(1, 4), 2);
        for (int f : outside(0, 6)) {
            due("between(" + f + ", 0)", x.between(f, 0), NONE);
            due("between(0, " + f + ")", x.between(0, f), NONE);
        }
        due("the base alone", of(SHEET).between(0, 0), 0);
        due("without a part", new SheetFolds().between(0, 0), NONE);
    }
}
