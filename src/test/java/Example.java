/** The example of README.md, which ReadmeTest looks up there, with what it prints. */
public final class Example {
    /** Puts a text on the tape, twenty bytes a call, and cuts off the blanks that filled up the last twenty. */
    static void tell(SheetFolds x, String text) {
        for (int i = 0; i < text.length(); i += 20) {
            x.feed(four(text, i), four(text, i + 4), four(text, i + 8), four(text, i + 12), four(text, i + 16));
        }
        x.end(text.length());
    }

    static int four(String text, int at) {
        int bytes = 0;
        for (int i = at; i < at + 4; i++) {
            bytes = bytes << 8 | (i < text.length() ? text.charAt(i) : ' ');
        }
        return bytes;
    }

    public static void main(String[] args) {
        SheetFolds x = new SheetFolds();
        tell(x, "sheet thick 1 base 20 10; press 12; tool 15; tool 5;"
                + "flange wall on base north from 0 wide 20 high 6 up round 1;"
                + "flange lip on wall north from 0 wide 20 high 4 up round 1;"
                + "flange rear on base south from 0 wide 20 high 8 up round 1;");
        if (x.part() == SheetFolds.NONE) {
            System.out.println("fault " + x.fault(0) + " at byte " + x.fault(1));
            return;
        }
        System.out.println("flat: " + x.flatBox(1) + " .. " + x.flatBox(3) + " along y");
        System.out.println("orders: " + x.orders() + ", the first begins with bend " + x.order(0));
        System.out.println("bend 1: " + x.bend(1) + ", bend 3: " + x.bend(3) + ", made: " + x.has(4));
        System.out.println("bend 2: " + x.bend(2) + ", its punch meets: " + x.meets(2, x.has(4)));
        System.out.println("undo: " + x.undo() + ", bend 2: " + x.bend(2) + ", then bend 3: " + x.bend(3));
        System.out.println("flange 2 lies at z " + x.space(2, 2) + ", refused: " + x.status(2));
    }
}
