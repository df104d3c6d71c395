/** The edges of Terms I and of the promises 1 to 5: the tape, the text of a part, its faults. */
final class TextEdges extends Check {
    private static final String[] OWN_WORDS = {"sheet", "thick", "base", "press", "tool", "allow", "flange", "on",
        "north", "east", "south", "west", "from", "wide", "high", "up", "down", "round"};
    private static final String[] SIDES = {"north", "east", "south", "west"};
    private static final String A = "flange a on base north from 2 wide 5 high 3 up round 1;";
    private static final int BLANKS = 0x20202020;

    private TextEdges() {
    }

    static void all() {
        newObject();
        feed();
        end();
        part();
        latestFault();
        sheet();
        press();
        tool();
        allow();
        flange();
        names();
        ownWords();
        numbers();
        blanks();
        sideBySide();
        firstAlongTheText();
        noSuchText();
        numbersThatCannotBe();
        namesThatCannotBe();
        hangingSides();
        widths();
        sharedSides();
        oneTooMany();
    }

    private static int blankFeed(SheetFolds x) {
        return x.feed(BLANKS, BLANKS, BLANKS, BLANKS, BLANKS);
    }

    private static void newObject() {
        says(1, "No part; the seed is 1.");
        SheetFolds x = new SheetFolds();
        for (int what = 0; what <= 6; what++) {
            due("has(" + what + ")", x.has(what), 0);
        }
        due("has(7)", x.has(7), 1);
        due("an empty tape", x.end(1), false);
        due("nothing to undo", x.undo(), false);
        due("no base", x.letter(0, 0), NONE);
        for (int what = 0; what <= 5; what++) {
            due("status(" + what + ")", x.status(what), what == 0 || what == 4 ? 1 : 0);
        }
        SheetFolds y = new SheetFolds();
        for (int n = 0; n < 511; n++) {
            y.end(-1);
        }
        due("the 512th call", y.status(0), 511);
    }

    private static void feed() {
        says(2, "Twenty bytes come behind those on the tape, of each number the highest first: how many there are");
        SheetFolds x = new SheetFolds();
        due("the first twenty", x.feed(0x73686565, 0x74207468, 0x69636b20, 0x31206261, 0x73652039), 20);
        due("the next twenty", x.feed(0x20383b20, BLANKS, BLANKS, BLANKS, BLANKS), 40);
        due("sheet thick 1 base 9 8;", x.part(), 1);
        due("as wide as told", x.flat(0, 2), 9);
        due("as high as told", x.flat(0, 3), 8);
        for (int byteOf20 = 0; byteOf20 < 20; byteOf20++) {
            int[] n = {BLANKS, BLANKS, BLANKS, BLANKS, BLANKS};
            n[byteOf20 / 4] ^= (0x20 ^ 0xff) << 24 - 8 * (byteOf20 % 4);
            SheetFolds y = new SheetFolds();
            blankFeed(y);
            y.feed(n[0], n[1], n[2], n[3], n[4]);
            y.part();
            due("the place of a byte 255", y.fault(1), 20 + byteOf20);
        }
        SheetFolds z = new SheetFolds();
        blankFeed(z);
        z.end(19);
        due("behind nineteen", z.feed(0x78202020, BLANKS, BLANKS, BLANKS, BLANKS), 39);
        z.part();
        due("the x stands behind the nineteen", z.fault(1), 19);
        full();
    }

    private static void full() {
        says(2, "NONE, refused (0), if there would be more than 1200.");
        SheetFolds x = new SheetFolds();
        for (int n = 1; n <= 60; n++) {
            due("feed " + n, blankFeed(x), 20 * n);
        }
        due("one more", blankFeed(x), NONE);
        due("it stays full", x.end(1200), true);
        x.end(1181);
        due("1201", x.feed(0, 0, 0, 0, 0), NONE);
        due("it stays at 1181", x.end(1182), false);
        due("all 1181", x.end(1181), true);
        x.end(1180);
        due("1200", blankFeed(x), 1200);
        due("refused", x.status(0), 3);
        x.part();
        due("what was refused is not on the tape", x.fault(1), 1200);
        due("room again", blankFeed(x), 20);
        SheetFolds y = new SheetFolds();
        put(y, " ".repeat(1177) + SHEET);
        due("1200 bytes are read", y.part(), 1);
    }

    private static void end() {
        says(3, "The tape has its first n bytes alone: true");
        SheetFolds x = new SheetFolds();
        put(x, SHEET + "tool 5;");
        due("all bytes", x.end(30), true);
        due("the sheet alone", x.end(23), true);
        due("no more", x.end(24), false);
        due("one statement", x.part(), 1);
        due("no bytes of none", x.end(0), true);
        put(x, SHEET);
        due("no bytes of some", x.end(0), true);
        due("none is left", x.end(1), false);
        says(3, "false, refused (0), if it has not so many, or n is below 0.");
        SheetFolds y = new SheetFolds();
        put(y, SHEET);
        int refused = 0;
        for (int n : outside(0, 23)) {
            due("end(" + n + ")", y.end(n), false);
            refused++;
            due("status(0)", y.status(0), refused);
        }
        due("the tape stays", y.part(), 1);
    }

    private static SheetFolds used() {
        SheetFolds x = of(SHEET + "tool 5;tool 3;press 44;allow 1 7;" + A
                + "flange b on a north from 1 wide 3 high 2 down round 1;");
        x.seed(77);
        x.bend(1);
        x.turn(2);
        x.press(45);
        put(x, "\1\0\12");
        x.see();
        return x;
    }

    private static void allStays(SheetFolds x) {
        int[] has = {3, 2, 1, 45, 1, 1, 3, 77};
        for (int what = 0; what < has.length; what++) {
            due("has(" + what + ") stays", x.has(what), has[what]);
        }
        due("the tool stays", x.tool(1), 3);
        due("the allowance stays", x.allowance(1), 7);
        due("the name stays", x.letter(2, 0), 2);
        due("the way stays", x.flange(2, 5), 1);
        due("the width stays", x.flat(0, 2), 9);
        due("what is seen stays", x.fits(1, 0), 7);
        due("the press is undone", x.undo(), true);
        due("has(3)", x.has(3), 44);
    }

    private static void part() {
        says(4, "The tape (it goes) is THE PART: how many STATEMENTS");
        SheetFolds x = new SheetFolds();
        put(x, SHEET);
        due("one", x.part(), 1);
        due("the tape went", x.end(1), false);
        put(x, SHEET + "press 1;".repeat(147));
        due("as many as the tape holds", x.part(), 148);
        says(4, "NONE, refused (1), with a FAULT (all stays;");
        String[] faults = {"", "sheet thick 2 base 5 5;tool 9;press 9;allow 1 9;flange z on base north from 0 wide 5 "
            + "high 9 up round 1;x", "sheet thick 0", SHEET + "flange b on c", SHEET + A + "flange b on a south",
            SHEET + "tool 1;".repeat(9)};
        for (int kind = 0; kind <= 5; kind++) {
            SheetFolds y = used();
            put(y, faults[kind]);
            due("part() with a fault", y.part(), NONE);
            due("fault(0)", y.fault(0), Math.max(1, kind));
            due("status(1)", y.status(1), 1);
            due("the tape went", y.end(1), false);
            allStays(y);
        }
        says(4, "one without a STATEMENT has FAULT 1 at its length");
        bad(1, "^");
        bad(1, " ^");
        bad(1, " \n\n \n ^");
        bad(1, " ".repeat(1200) + "^");
        says(4, "Without one no BEND is MADE, nothing is SEEN, or can be undone; the seed stays.");
        SheetFolds z = used();
        put(z, SHEET + "tool 5;" + A);
        due("the next part", z.part(), 3);
        int[] has = {2, 1, 1, 30, 0, 0, 0, 77};
        for (int what = 0; what < has.length; what++) {
            due("has(" + what + ")", z.has(what), has[what]);
        }
        due("no allowance of the one ahead", z.allowance(1), 2);
        due("nothing can be undone", z.undo(), false);
        due("nothing is seen", z.fits(1, NONE), NONE);
        due("the refused are still counted", z.status(4), 1);
        reused();
    }

    /** An object that held other parts, and read faulty ones, answers all that a new one answers. */
    private static void reused() {
        String wide = "sheet thick 9 base 60 60;tool 1;tool 2;tool 5;tool 9;press 99;allow 1 40;allow 2 0;allow 9 1;"
                + "flange p on base north from 0 wide 9 high 50 up round 1;flange q on p east from 0 wide 50 high 30 up round 9;"
                + "flange r on base west from 0 wide 50 high 1 down round 2;flange s on r south from 0 wide 1 high 60 up round 2;"
                + "flange t on base south from 9 wide 5 high 9 up round 9;flange u on t west from 0 wide 9 high 60 up round 1;"
                + "flange v on base east from 2 wide 5 high 5 up round 2;flange w on v east from 0 wide 5 high 5 up round 3;";
        String narrow = "sheet thick 1 base 1 1;allow 1 1;flange a on base north from 0 wide 1 high 2 up round 1;"
                + "flange b on a north from 0 wide 1 high 5 down round 1;flange c on b north from 0 wide 1 high 5 up round 1;";
        String[] texts = {SHEET, "sheet thick 1 base 60 60;", SHEET + A.replace("up", "down") + "tool 9;",
            SHEET + A + "tool 5;tool 6;press 3;allow 9 2;flange b on a north from 0 wide 5 high 2 down round 9;",
            "sheet thick 1 base 3 3;tool 3;flange a on base north from 0 wide 3 high 1 up round 1;", wide, narrow};
        for (String text : texts) {
            alike("reused", reused(wide, 21, text), of(text));
            alike("reused", reused(narrow, 3, text), of(text));
            alike("reused", reused(narrow, 0, text), of(text));
        }
    }

    private static SheetFolds reused(String first, int state, String text) {
        SheetFolds x = of(first);
        x.lay(state);
        x.tallest();
        put(x, first);
        x.part();
        x.lay(state);
        x.orders();
        put(x, first + "x");
        x.part();
        x.flatBox(0);
        x.space(1, 0);
        put(x, text);
        due("part() behind others", x.part(), text.chars().filter(c -> c == ';').count());
        return x;
    }

    private static void latestFault() {
        says(5, "Of the latest part(): its FAULT (what 0; 0 without, and ahead of any), its place (1; NONE without).");
        SheetFolds x = new SheetFolds();
        due("ahead of any", x.fault(0), 0);
        due("its place", x.fault(1), NONE);
        put(x, "sheet thick 0");
        due("no part yet", x.fault(0), 0);
        x.part();
        due("a number", x.fault(0), 2);
        due("its place", x.fault(1), 12);
        put(x, SHEET);
        due("still the latest part()", x.fault(0), 2);
        x.part();
        due("without", x.fault(0), 0);
        due("no place", x.fault(1), NONE);
        put(x, "\1\0\1");
        x.see();
        due("see() is no part()", x.fault(0), 0);
        x.part();
        due("an empty one", x.fault(0), 1);
        due("at its length", x.fault(1), 0);
        says(5, "NONE for another what.");
        for (int what : outside(0, 1)) {
            due("fault(" + what + ")", x.fault(what), NONE);
        }
    }

    private static void sheet() {
        terms("sheet thick N base N N (THICK 1 .. 9; the BASE's width, height 1 .. 60; the first STATEMENT, and it alone)");
        bad(2, "sheet thick ^0 base 5 5;");
        good("sheet thick 1 base 1 1;");
        good("sheet thick 9 base 60 60;");
        bad(2, "sheet thick ^10 base 5 5;");
        bad(2, "sheet thick 1 base ^0 5;");
        bad(2, "sheet thick 1 base ^61 5;");
        bad(2, "sheet thick 1 base 5 ^0;");
        bad(2, "sheet thick 1 base 5 ^61;");
        SheetFolds x = of("sheet thick 9 base 60 1;");
        due("thick", x.has(2), 9);
        due("wide", x.flat(0, 2), 60);
        due("high", x.flat(0, 3), 1);
        bad(1, "^press 5;" + SHEET);
        bad(1, "^tool 5;" + SHEET);
        bad(1, "^allow 1 1;" + SHEET);
        bad(1, "^" + A + SHEET);
        bad(1, SHEET + "^" + SHEET);
        bad(1, SHEET + "tool 5;^" + SHEET);
    }

    private static void press() {
        terms("press N (1 .. 99; how high the PUNCH is; 30 without; the last one counts)");
        bad(2, SHEET + "press ^0;");
        due("the lowest", of(SHEET + "press 1;").has(3), 1);
        due("the highest", of(SHEET + "press 99;").has(3), 99);
        bad(1, SHEET + "press 10^0;");
        due("30 without", of(SHEET).has(3), 30);
        due("the last one, lower", of(SHEET + "press 99;press 1;").has(3), 1);
        due("the last one, higher", of(SHEET + "press 1;tool 5;press 99;").has(3), 99);
        SheetFolds x = of(SHEET + "press 7;");
        put(x, SHEET);
        x.part();
        due("30 without, behind another part", x.has(3), 30);
    }

    private static void tool() {
        terms("tool N (a WIDTH 1 .. 60; 8 TOOLS)");
        bad(2, SHEET + "tool ^0;");
        SheetFolds x = of(SHEET + "tool 1;tool 60;");
        due("the narrowest", x.tool(0), 1);
        due("the widest", x.tool(1), 60);
        bad(2, SHEET + "tool ^61;");
        SheetFolds y = of(SHEET + "tool 1;tool 2;tool 3;tool 4;tool 5;tool 6;tool 7;tool 8;");
        due("eight", y.has(1), 8);
        due("the eighth", y.tool(7), 8);
        due("none", of(SHEET).has(1), 0);
    }

    private static void allow() {
        terms("allow N N (a RADIUS 1 .. 9, its ALLOWANCE 0 .. 60; the last one of a RADIUS counts)");
        bad(2, SHEET + "allow ^0 5;");
        bad(2, SHEET + "allow ^10 5;");
        bad(2, SHEET + "allow 1 ^61;");
        SheetFolds x = of(SHEET + "allow 1 0;allow 9 60;");
        due("the least", x.allowance(1), 0);
        due("the greatest", x.allowance(9), 60);
        SheetFolds y = of(SHEET + "allow 1 60;allow 2 5;allow 1 0;allow 9 3;allow 9 4;");
        due("the last of radius 1", y.allowance(1), 0);
        due("that of radius 2 stays", y.allowance(2), 5);
        due("the last of radius 9", y.allowance(9), 4);
        good(SHEET + "allow 1 1;".repeat(100));
    }

    private static void flange() {
        terms("flange NAME on WHERE SIDE from N wide N high N WAY round N (WHERE: base, or the NAME of a FLANGE told ahead");
        String base = "sheet thick 1 base 60 60;";
        good(base + "flange a on base north from 0 wide 60 high 60 up round 9;");
        good(base + "flange a on base east from 59 wide 1 high 1 down round 1;");
        bad(2, base + "flange a on base north from ^60 wide 1 high 1 up round 1;");
        bad(2, base + "flange a on base north from 0 wide ^0 high 1 up round 1;");
        bad(2, base + "flange a on base north from 0 wide ^61 high 1 up round 1;");
        bad(2, base + "flange a on base north from 0 wide 1 high ^0 up round 1;");
        bad(2, base + "flange a on base north from 0 wide 1 high ^61 up round 1;");
        bad(2, base + "flange a on base north from 0 wide 1 high 1 up round ^0;");
        bad(2, base + "flange a on base north from 0 wide 1 high 1 up round ^10;");
        bad(3, SHEET + "flange a on ^a north");
        bad(3, SHEET + "flange b on ^a north from 0 wide 1 high 1 up round 1;" + A);
        good(SHEET + A + "flange b on a north from 0 wide 1 high 1 up round 1;");
        terms("SIDE: north, east, south, west; 0 .. 59; WIDTH 1 .. 60; HEIGHT 1 .. 60; WAY: up, down; a RADIUS 1 .. 9;"
                + " 8 FLANGES beside the BASE)");
        for (int side = 0; side < 4; side++) {
            SheetFolds x = of(SHEET + A.replace("north", SIDES[side]));
            due(SIDES[side], x.flange(1, 1), side);
            due("up", x.flange(1, 5), 1);
        }
        bad(1, SHEET + "flange a on base ^left from 2");
        due("down", of(SHEET + A.replace("up", "down")).flange(1, 5), 0);
        bad(1, SHEET + A.replace("up", "^over"));
        SheetFolds eight = of(SHEET + eightFlanges());
        due("eight and the base", eight.has(0), 9);
        due("the eighth", eight.flange(8, 2), 7);
    }

    private static String eightFlanges() {
        StringBuilder text = new StringBuilder();
        for (int i = 0; i < 8; i++) {
            text.append("flange f").append((char) ('a' + i)).append(" on base north from ").append(i);
            text.append(" wide 1 high 1 up round 1;");
        }
        return text.toString();
    }

    private static void names() {
        terms("NAMES: 1 to 4 letters, all unlike, no OWN WORD");
        bad(1, SHEET + "flange ^; on base");
        good(SHEET + A.replace(" a ", " z "));
        good(SHEET + A.replace(" a ", " abcd "));
        bad(1, SHEET + A.replace(" a ", " abcd^e "));
        bad(3, SHEET + A + "flange ^a on base");
        good(SHEET + A + A.replace(" a ", " aa ").replace("north", "east"));
        bad(3, SHEET + A.replace(" a ", " abcd ") + "flange ^abcd on");
        good(SHEET + A.replace(" a ", " abcd ") + A.replace(" a ", " abc ").replace("north", "east")
                + A.replace(" a ", " abce ").replace("north", "south"));
        String behind = " on base north from 2 wide 5 high 3 up round 1;";
        for (char c = 0; c < 256; c++) {
            if (c >= 'a' && c <= 'z') {
                due("letter " + (int) c, of(SHEET + "flange " + c + behind).letter(1, 0), c - 96);
            } else if (c != 10 && c != 32) {
                faulty(SHEET + "flange " + c + behind, 1, 30);
                faulty(SHEET + "flange a" + c + behind, 1, 31);
            }
        }
    }

    private static void ownWords() {
        terms("no OWN WORD: sheet, thick, base, press, tool, allow, flange, on, north, east, south, west, from, wide,"
                + " high, up, down, round.");
        for (String word : OWN_WORDS) {
            bad(1, SHEET + "flange ^" + word + " on base north");
            String nearly = word.substring(0, Math.min(4, word.length()) - 1);
            good(SHEET + A.replace(" a ", " " + nearly + "q "));
            bad(word.length() > 3 ? 1 : 3, word.length() > 3
                    ? SHEET + "flange a on " + (word + "q").substring(0, 4) + "^" + (word + "q").substring(4)
                    : SHEET + "flange a on ^" + word + "q");
            if (!word.equals("base")) {
                bad(1, SHEET + "flange a on ^" + word + " north");
            }
            if (!word.equals("press") && !word.equals("tool") && !word.equals("allow") && !word.equals("flange")) {
                bad(1, SHEET + "^" + word + " 5;");
            }
        }
    }

    private static void numbers() {
        terms("N: 1 or 2 digits.");
        due("one", of(SHEET + "tool 5;").tool(0), 5);
        due("two", of(SHEET + "tool 50;").tool(0), 50);
        due("a nought ahead", of(SHEET + "tool 05;").tool(0), 5);
        bad(1, SHEET + "tool 00^5;");
        bad(1, SHEET + "tool 10^0;");
        bad(1, SHEET + "tool ^;");
        bad(1, SHEET + "tool ^+5;");
        bad(1, SHEET + "tool ^-5;");
        bad(1, SHEET + "tool 5^.5;");
        for (char c = 0; c < 256; c++) {
            if (c >= '1' && c <= '9') {
                due("digit " + c, of(SHEET + "tool " + c + ";").tool(0), c - '0');
            } else if (c != 10 && c != 32 && c != '0') {
                faulty(SHEET + "tool " + c + "5;", 1, 28);
                faulty(SHEET + "tool 5" + c + ";;", 1, c == ';' ? 30 : 29);
            }
        }
        bad(2, "sheet thick 1 base 9 8;allow ^00 5;");
        good("sheet thick 01 base 09 08;press 09;tool 01;allow 01 00;"
                + "flange a on base north from 00 wide 01 high 01 up round 01;");
    }

    private static void blanks() {
        terms("Blanks (10, 32) are where one likes");
        good("\n sheet \n\n thick\n1  base\n9 \n8\n;\n \ntool\n5 ; \n");
        good(SHEET + "\nflange\na\non\nbase\nnorth\nfrom\n2\nwide\n5\nhigh\n3\nup\nround\n1\n;\n");
        good("sheet thick 1 base 9 8;tool 5;tool 6;" + A);
        good(SHEET + A.replace(" a ", "\na ") + "flange b on a north from 0 wide 1 high 1 up round 1;");
        bad(3, SHEET + A.replace(" a ", "\na ") + "flange ^a on base");
        bad(1, "^she et thick 1 base 9 8;");
        bad(1, "sheet thick 1 base 6 1 ^0;");
        for (char c = 0; c < 256; c++) {
            boolean blank = c == 10 || c == 32;
            faulty(SHEET + c + "tool 5;", blank ? 0 : 1, blank ? NONE : 23);
            faulty("sheet" + c + "thick 1 base 9 8;", blank ? 0 : 1,
                    blank ? NONE : c >= 'a' && c <= 'z' ? 0 : 5);
            faulty(c + SHEET, blank ? 0 : 1, blank ? NONE : 0);
        }
    }

    private static void sideBySide() {
        terms("(words and numbers side by side need one)");
        bad(1, "^sheetthick 1 base 9 8;");
        bad(1, "sheet thick^1 base 9 8;");
        bad(1, "sheet thick 1^base 9 8;");
        bad(1, "sheet thick 1 base^9 8;");
        bad(2, "sheet thick 1 base ^98;");
        bad(1, "sheet thick 1 base 9 8;tool^5;");
        bad(1, "sheet thick 1 base 9 8;allow^1 5;");
        bad(1, SHEET + A.replace("wide 5", "wide^5"));
        bad(1, SHEET + A.replace("5 high", "5^high"));
        bad(1, SHEET + A.replace("3 up", "3^up"));
        bad(1, SHEET + A.replace("2 wide", "2^wide"));
        bad(1, SHEET + A.replace("round 1", "round^1"));
        bad(1, SHEET + "flange a on base^north from");
        bad(1, SHEET + "^toolflange");
        good("sheet thick 1 base 9 8;tool 5;press 5;");
    }

    private static void firstAlongTheText() {
        terms("FAULTS, the first along the text");
        bad(2, "sheet thick ^0 base 0 0;");
        bad(2, "sheet thick ^0 bse 9 8");
        bad(1, "sheet ^thck 0 base 9 8");
        bad(3, SHEET + A + "flange ^a on c south from 60 wide 0");
        bad(3, SHEET + A + "flange b on ^c south from 60 wide 0");
        bad(4, SHEET + A + "flange b on a ^south from 60 wide 0");
        bad(2, SHEET + A + "flange b on a north from ^60 wide 60");
        bad(4, SHEET + A + "flange b on a north from 59 wide ^60 high 0 over");
        bad(5, SHEET + "tool 1;".repeat(8) + "^tool 0;flange");
        bad(2, SHEET + "tool 1;".repeat(7) + "tool ^0;tool 1;");
        bad(5, SHEET + eightFlanges() + "^flange fa on fb south");
        bad(1, SHEET + "tool 5;^;tool 0;");
    }

    private static void noSuchText() {
        terms("1 the first byte with which no such text goes on (words and numbers whole, at their first byte");
        bad(1, "^sheets thick 1");
        bad(1, "^shee");
        bad(1, "sheet ^thic");
        bad(1, "sheet ^thickness 1");
        bad(1, "sheet ^1 base");
        bad(1, "sheet ^100 base");
        bad(1, "sheet thick ^base");
        bad(1, "sheet thick 1 base 9 8 ^tool 5;");
        bad(1, "sheet thick 1 base 9 8 ^123;");
        bad(1, "sheet thick 1 base 9 ^;");
        bad(1, SHEET + "^tools 5;");
        bad(1, SHEET + "^too 5;");
        bad(1, SHEET + A.replace("from", "^form"));
        bad(1, SHEET + A.replace("wide", "^width"));
        bad(1, SHEET + A.replace("high", "^up"));
        bad(1, SHEET + A.replace("round", "^around"));
        bad(1, SHEET + A.replace("up", "^u"));
        bad(1, SHEET + A.replace("north", "^northern"));
        terms("where a NAME is asked, an OWN WORD so, a 5th letter at itself; a 3rd digit at itself");
        bad(1, SHEET + "flange ^north on base");
        bad(1, SHEET + "flange nort^i on base");
        bad(1, SHEET + "flange shee^ts on base");
        bad(1, SHEET + "flange aaaa^aaaaaaaa on base");
        bad(1, SHEET + "flange a on aaaa^a north");
        bad(1, SHEET + "flange a on base^x north");
        bad(1, SHEET + "tool 60^0;");
        bad(1, SHEET + "tool 99^9;");
        bad(1, SHEET + "allow 1 00^0;");
        terms("at the text's length, if it ends too soon)");
        String whole = SHEET + "allow 1 5;press 9;tool 4;" + A;
        for (int n = 0; n <= whole.length(); n++) {
            cutOff(whole, n);
        }
        bad(1, "sheet thick 1 base 9 8 \n ^");
        bad(1, "sheet ^");
    }

    /** A text that is cut off: within a word that is its last one the word is no such word. */
    private static void cutOff(String whole, int n) {
        String text = whole.substring(0, n);
        if (n > 0 && text.endsWith(";")) {
            good(text);
            return;
        }
        int start = Math.max(text.lastIndexOf(' '), text.lastIndexOf(';')) + 1;
        int end = n;
        while (end < whole.length() && Character.isLetter(whole.charAt(end))) {
            end++;
        }
        boolean within = end > n && n > start && Character.isLetter(whole.charAt(start));
        boolean between = n > 0 && text.trim().endsWith(";");
        if (!between) {
            // what begins like base may be a NAME, but there is no such FLANGE
            faulty(text, text.substring(start).matches("b|ba|bas") && text.contains("on b") ? 3 : 1, within ? start : n);
        }
    }

    private static void numbersThatCannotBe() {
        terms("2 a number that can't be, at it");
        bad(2, "sheet thick   ^0");
        bad(2, "sheet thick\n^99 base");
        bad(2, "sheet thick 1 base ^99 99;");
        bad(2, SHEET + "allow 9 ^99;");
        bad(2, SHEET + "allow ^99 99;");
        bad(2, SHEET + "press ^00;");
        bad(2, SHEET + "tool ^99");
        bad(2, SHEET + A.replace("from 2", "from ^99"));
        bad(2, SHEET + A.replace("wide 5", "wide ^99"));
        bad(2, SHEET + A.replace("high 3", "high ^99"));
        bad(2, SHEET + A.replace("round 1", "round ^99"));
    }

    private static void namesThatCannotBe() {
        terms("3 a NAME that is there already, one that is no FLANGE, at it");
        String b = A.replace(" a ", " b ").replace("base north from 2", "a north from 0");
        bad(3, SHEET + A + b + "flange  ^a on base");
        bad(3, SHEET + A + b + "flange ^b on base");
        good(SHEET + A + b + A.replace(" a ", " c ").replace("base north from 2", "b north from 0"));
        bad(3, SHEET + A + "flange c on ^b north");
        bad(3, SHEET + A + "flange c on ^aa north");
        bad(3, SHEET + A.replace(" a ", " ab ") + "flange c on ^a north");
        bad(3, SHEET + A.replace(" a ", " ab ") + "flange c on ^ba north");
        bad(3, SHEET + "flange a on ^b");
        SheetFolds x = of(SHEET + A);
        put(x, SHEET + "flange b on a");
        x.part();
        due("a FLANGE of the part ahead is none", x.fault(0), 3);
    }

    private static void hangingSides() {
        terms("4 a SIDE by which that FLANGE hangs itself (at it)");
        for (int side = 0; side < 4; side++) {
            String a = SHEET + A.replace("north", SIDES[side]);
            for (int other = 0; other < 4; other++) {
                String b = "flange b on a " + SIDES[other] + " from 0 wide 1 high 1 up round 1;";
                if ((side + 2) % 4 == other) {
                    bad(4, a + b.replace(SIDES[other], "^" + SIDES[other]));
                } else {
                    good(a + b);
                }
            }
        }
        terms("a SIDE by which that FLANGE hangs itself (at it)");
        String b = "flange b on a east from 0 wide 1 high 2 up round 1;";
        bad(4, SHEET + A + b + "flange c on b ^west from 0 wide 1");
        good(SHEET + A + b + "flange c on b south from 0 wide 1 high 1 up round 1;");
    }

    private static void widths() {
        terms("a WIDTH by which it would not lie within that SIDE");
        for (String side : new String[] {"north", "south"}) {
            good(SHEET + "flange a on base " + side + " from 0 wide 9 high 1 up round 1;");
            bad(4, SHEET + "flange a on base " + side + " from 0 wide ^10 high 1 up round 1;");
            good(SHEET + "flange a on base " + side + " from 8 wide 1 high 1 up round 1;");
            bad(4, SHEET + "flange a on base " + side + " from 8 wide ^2 high 1 up round 1;");
            bad(4, SHEET + "flange a on base " + side + " from 9 wide ^1 high 1 up round 1;");
        }
        for (String side : new String[] {"east", "west"}) {
            good(SHEET + "flange a on base " + side + " from 0 wide 8 high 1 up round 1;");
            bad(4, SHEET + "flange a on base " + side + " from 0 wide ^9 high 1 up round 1;");
            good(SHEET + "flange a on base " + side + " from 7 wide 1 high 1 up round 1;");
            bad(4, SHEET + "flange a on base " + side + " from 8 wide ^1 high 1 up round 1;");
        }
        bad(4, SHEET + "flange a on base north from 59 wide ^60");
        for (int side = 0; side < 4; side++) {
            String a = SHEET + A.replace("north", SIDES[side]);
            String far = "flange b on a " + SIDES[side];
            String beside = "flange b on a " + SIDES[(side + 1) % 4];
            good(a + far + " from 0 wide 5 high 1 up round 1;");
            bad(4, a + far + " from 0 wide ^6 high 1 up round 1;");
            bad(4, a + far + " from 5 wide ^1 high 1 up round 1;");
            good(a + beside + " from 0 wide 3 high 1 up round 1;");
            bad(4, a + beside + " from 0 wide ^4 high 1 up round 1;");
            bad(4, a + beside + " from 3 wide ^1 high 1 up round 1;");
        }
    }

    private static void sharedSides() {
        terms("or would share some of it with another FLANGE there (at it)");
        String a = SHEET + "flange a on base north from 3 wide 3 high 5 up round 1;";
        good(a + "flange b on base north from 0 wide 3 high 1 up round 1;");
        bad(4, a + "flange b on base north from 0 wide ^4 high 1 up round 1;");
        good(a + "flange b on base north from 6 wide 3 high 1 up round 1;");
        bad(4, a + "flange b on base north from 5 wide ^3 high 1 up round 1;");
        bad(4, a + "flange b on base north from 4 wide ^1 high 1 up round 1;");
        bad(4, a + "flange b on base north from 0 wide ^9 high 1 up round 1;");
        bad(4, a + "flange b on base north from 3 wide ^3 high 1 up round 1;");
        good(a + "flange b on base south from 3 wide 3 high 1 up round 1;");
        good(a + "flange b on base east from 3 wide 3 high 1 up round 1;");
        good(a + "flange b on a north from 0 wide 3 high 1 up round 1;");
        String two = a + "flange b on base north from 0 wide 3 high 1 up round 1;";
        bad(4, two + "flange c on base north from 2 wide ^1");
        good(two + "flange c on base north from 6 wide 3 high 1 up round 1;");
        String sides = a + "flange b on a east from 1 wide 2 high 1 up round 1;";
        bad(4, sides + "flange c on a east from 2 wide ^2");
        good(sides + "flange c on a east from 3 wide 2 high 1 up round 1;");
        good(sides + "flange c on a west from 1 wide 2 high 1 up round 1;");
    }

    private static void oneTooMany() {
        terms("5 one too many, at its first byte: a 9th tool, a 9th flange (at that word).");
        String tools = SHEET + "tool 1;".repeat(8);
        good(tools);
        bad(5, tools + "^tool");
        bad(5, tools + " \n ^tool 5;");
        bad(5, tools + A + "^tool 99;");
        bad(1, tools + "^tools 5;");
        good(tools + "press 5;allow 1 1;" + A);
        String flanges = SHEET + eightFlanges();
        good(flanges);
        bad(5, flanges + "^flange");
        bad(5, flanges + "tool 1;\n^flange 5");
        bad(1, flanges + "^flanges");
        good(flanges + "tool 1;".repeat(8) + "press 5;".repeat(9) + "allow 1 1;".repeat(9));
    }
}
