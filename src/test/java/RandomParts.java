import java.util.ArrayList;
import java.util.Arrays;
import java.util.List;
import java.util.Random;
import java.util.regex.Matcher;
import java.util.regex.Pattern;

/** Texts of random parts, with and without faults. */
final class RandomParts {
    private static final String[] SIDES = {"north", "east", "south", "west"};
    private static final String[] WORDS = {"sheet", "thick", "base", "press", "tool", "allow", "flange", "on",
        "north", "east", "south", "west", "from", "wide", "high", "up", "down", "round", ";", "a", "b", "abcd",
        "abcde", "9", "0", "60", "61", "100", "3", " ", "\n", "\t", "A", "#"};
    private static final String[] NUMBERS = {"0", "00", "1", "09", "9", "10", "59", "60", "61", "99", "100", "000"};

    private final Random random;
    private final StringBuilder text = new StringBuilder();
    /** Of each flange its sizes along x and y, and the side by which it hangs. */
    private final List<int[]> flanges = new ArrayList<>();
    private final boolean[][][] taken = new boolean[9][4][60];
    /** Above 1 sizes, radii and allowances go up to the greatest ones. */
    private int scale;
    private int radii;

    RandomParts(Random random) {
        this.random = random;
    }

    private int pick(int low, int high) {
        return low + random.nextInt(high - low + 1);
    }

    /** Mostly so many times the scale, which lets things meet; now and then any size there is. */
    private int scaled(int low, int high) {
        return scale > 1 && pick(0, 9) == 0 ? pick(Math.max(1, low), 60) : Math.min(60, scale * pick(low, high));
    }

    static String nameOf(int flange) {
        return "qwertyuiop".substring(0, 1 + flange % 3) + (char) ('a' + flange);
    }

    String good() {
        scale = pick(0, 2) > 0 ? 1 : pick(2, 9);
        radii = scale == 1 ? 3 : 9;
        int kind = pick(0, 2);
        text.setLength(0);
        flanges.clear();
        for (boolean[][] sides : taken) {
            for (boolean[] side : sides) {
                Arrays.fill(side, false);
            }
        }
        int[] base = {scaled(kind == 0 ? 2 : 4, 7), scaled(kind == 0 ? 2 : 4, 7), -1};
        flanges.add(base);
        text.append("sheet thick ").append(pick(1, scale == 1 ? 3 : 9)).append(" base ").append(base[0]);
        text.append(' ').append(base[1]).append(';');
        if (kind == 0) {
            strew();
        } else if (kind == 1) {
            box();
        } else {
            roll();
        }
        tools();
        for (int r = 1; r <= radii; r++) {
            if (pick(0, 3) > 0) {
                text.append("allow ").append(r).append(' ').append(scaled(0, 2)).append(';');
            }
        }
        if (pick(0, 2) > 0) {
            text.append("press ").append(Math.min(99, scale * pick(1, 12))).append(" ; ");
        }
        return text.toString();
    }

    /** Flanges of all widths anywhere, more of them in rows. */
    private void strew() {
        int most = pick(1, 15) == 1 ? 8 : pick(0, 6);
        for (int tries = 0; tries < 60 && flanges.size() <= most; tries++) {
            int parent = pick(0, 1) == 0 ? flanges.size() - 1 : pick(0, flanges.size() - 1);
            int[] p = flanges.get(parent);
            int side = p[2] >= 0 && pick(0, 3) > 0 ? (p[2] + 2) % 4 : pick(0, 3);
            int length = side % 2 == 0 ? p[0] : p[1];
            int from = pick(0, 1) == 0 ? 0 : pick(0, length - 1);
            int width = pick(0, 1) == 0 ? length - from : pick(1, length - from);
            if (isFree(parent, side, from, width) || pick(0, 300) == 0) {
                add(parent, side, from, width, scaled(1, 8), pick(0, 3) > 0);
            }
        }
    }

    /** Walls round the base, with flanges on them that lean in over it and so are in each other's way. */
    private void box() {
        int most = pick(1, 15) == 1 ? 8 : pick(2, 6);
        boolean up = pick(0, 1) == 0;
        for (int tries = 0; tries < 60 && flanges.size() <= most; tries++) {
            int parent = flanges.size() < 3 || pick(0, 2) == 0 ? 0 : pick(1, flanges.size() - 1);
            int[] p = flanges.get(parent);
            int side = p[2] >= 0 && pick(0, 7) > 0 ? (p[2] + 2) % 4 : pick(0, 3);
            int length = side % 2 == 0 ? p[0] : p[1];
            int from = Math.min(length - 1, pick(0, 2) > 0 ? 0 : scale * pick(1, 2));
            int width = length - from;
            if (isFree(parent, side, from, width)) {
                add(parent, side, from, width, parent == 0 ? scaled(2, 4) : scaled(1, 6), pick(0, 5) > 0 == up);
            }
        }
    }

    /** A row that rolls up over the base, mostly ever closer, so that some bends have to wait for others. */
    private void roll() {
        int most = pick(1, 15) == 1 ? 8 : pick(2, 6);
        int side = pick(0, 3);
        int room = scaled(3, 7);
        int nextRoom = flanges.get(0)[side % 2 == 0 ? 1 : 0];
        for (int n = 0; n < most; n++) {
            int width = flanges.get(n)[side % 2 == 0 ? 0 : 1];
            int high = pick(0, 9) == 0 ? scaled(1, 8) : pick(Math.min(2, room), room);
            add(n, side, 0, pick(0, 4) > 0 ? width : pick(1, width), high, pick(0, 15) > 0);
            room = nextRoom;
            nextRoom = Math.max(1, high - 1);
        }
        if (isFree(0, (side + 2) % 4, 0, 1) && most < 8) {
            add(0, (side + 2) % 4, 0, 1, scaled(1, 8), true);
        }
    }

    private boolean isFree(int parent, int side, int from, int width) {
        boolean free = flanges.get(parent)[2] != side;
        for (int i = from; i < from + width; i++) {
            free &= !taken[parent][side][i];
        }
        return free;
    }

    private void add(int parent, int side, int from, int width, int high, boolean up) {
        Arrays.fill(taken[parent][side], from, from + width, true);
        int hangsBy = (side + 2) % 4;
        flanges.add(side % 2 == 0 ? new int[] {width, high, hangsBy} : new int[] {high, width, hangsBy});
        text.append("flange ").append(nameOf(flanges.size() - 1)).append(" on ");
        text.append(parent == 0 ? "base" : nameOf(parent)).append(' ').append(SIDES[side]);
        text.append(" from ").append(from).append(" wide ").append(width).append(" high ").append(high);
        text.append(up ? " up" : " down").append(" round ").append(pick(1, radii)).append(";\n");
    }

    /** Mostly all widths can be made up. */
    private void tools() {
        int few = pick(0, 5);
        for (int t = few == 0 ? pick(0, 3) : pick(scale == 1 ? 4 : 6, 8); t > 0; t--) {
            text.append("tool ").append(t > 6 ? scaled(1, 8) : 1 << t - 1).append(";");
        }
    }

    /** A text with one or two things changed, by bytes or by words. */
    String spoilt(String good) {
        StringBuilder s = new StringBuilder(good);
        for (int n = pick(1, 2); n > 0; n--) {
            if (pick(0, 1) == 0) {
                changeBytes(s);
            } else {
                changeWord(s);
            }
        }
        return s.toString();
    }

    private void changeBytes(StringBuilder s) {
        int at = pick(0, s.length());
        int to = Math.min(s.length(), at + pick(0, 3));
        switch (pick(0, 3)) {
            case 0:
                s.insert(at, WORDS[pick(0, WORDS.length - 1)]);
                break;
            case 1:
                s.replace(at, to, WORDS[pick(0, WORDS.length - 1)]);
                break;
            case 2:
                s.delete(at, to);
                break;
            default:
                s.setLength(at);
        }
    }

    /** One word or number becomes another one that could stand there, or a statement comes once more. */
    private void changeWord(StringBuilder s) {
        List<int[]> found = new ArrayList<>();
        Matcher m = Pattern.compile("[a-z]+|[0-9]+|;[^;]*").matcher(s);
        while (m.find()) {
            found.add(new int[] {m.start(), m.end()});
            if (s.charAt(m.start()) == ';') {
                m.region(m.start() + 1, s.length());
            }
        }
        if (found.isEmpty()) {
            return;
        }
        int[] at = found.get(pick(0, found.size() - 1));
        String old = s.substring(at[0], at[1]);
        if (old.charAt(0) == ';') {
            s.insert(at[0], old.repeat(pick(0, 3) == 0 ? 8 : 1));
        } else if (Character.isDigit(old.charAt(0))) {
            s.replace(at[0], at[1], NUMBERS[pick(0, NUMBERS.length - 1)]);
        } else if (Arrays.asList(SIDES).contains(old)) {
            s.replace(at[0], at[1], SIDES[pick(0, 3)]);
        } else {
            s.replace(at[0], at[1], pick(0, 1) == 0 ? nameOf(pick(1, 8)) : WORDS[pick(0, WORDS.length - 1)]);
        }
    }
}
