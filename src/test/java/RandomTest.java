import java.lang.reflect.Method;
import java.util.Arrays;
import java.util.Random;

/** Random parts and random calls, each answer of SheetFolds held against that of PlainFolds. */
public final class RandomTest {
    private static final Object[][] CALLS = {
        {"has", 9}, {"fault", 3}, {"letter", 9, 5}, {"flange", 9, 11}, {"tool", 9}, {"allowance", 11},
        {"flat", 18, 5}, {"flatBox", 6}, {"overlap", 3, 2}, {"space", 10, 7}, {"spaceBox", 4}, {"gap", 9, 9},
        {"normal", 10}, {"clash", "state", 3}, {"meets", 9, "state"}, {"tools", 9, 3}, {"why", 9, "state"},
        {"orders"}, {"order", 9}, {"mayBeLast", 9}, {"ahead", 9, 9}, {"reached", 5}, {"fewest", 3},
        {"thrifty", 3, 9}, {"tallest"}, {"turned", 9}, {"mends"}, {"lacks", 3}, {"opens"}, {"smallest", 3},
        {"between", 9, 9}, {"fits", 11, 62}, {"tells", 11, 3}, {"status", 7}};
    private static final Object[][] ACTS = {
        {"bend", 9}, {"bend", 9}, {"open", 9}, {"turn", 9}, {"lay", "state"}, {"follow", 9}, {"allow", 11, 8},
        {"allow", 11, 62}, {"press", 101}, {"press", 8}, {"chance", 42}, {"undo"}, {"seed", 1000}, {"see"}};

    private final Random random;
    private final RandomParts parts;
    private final SheetFolds folds = new SheetFolds();
    private final PlainFolds plain = new PlainFolds();
    private final StringBuilder told = new StringBuilder();
    private int bends;
    private int wrong;

    private RandomTest(long seed) {
        random = new Random(seed);
        parts = new RandomParts(random);
    }

    private int pick(int low, int high) {
        return low + random.nextInt(high - low + 1);
    }

    private int call(String name, int... args) {
        try {
            Class<?>[] types = new Class<?>[args.length];
            Arrays.fill(types, int.class);
            Object[] boxed = Arrays.stream(args).boxed().toArray();
            Method one = SheetFolds.class.getDeclaredMethod(name, types);
            Method other = PlainFolds.class.getDeclaredMethod(name, types);
            Object due = other.invoke(plain, boxed);
            Object got = one.invoke(folds, boxed);
            if (!due.equals(got)) {
                wrong++;
                if (wrong < 4) {
                    System.out.println(name + Arrays.toString(args) + " answered " + got + ", due is " + due
                            + "\nbehind:" + told);
                }
            }
            if (!name.equals("feed")) {
                told.append("\n  ").append(name).append(Arrays.toString(args)).append(' ').append(due);
            }
            return due instanceof Boolean b ? (b ? 1 : 0) : (Integer) due;
        } catch (ReflectiveOperationException e) {
            throw new IllegalStateException(name + Arrays.toString(args) + told, e);
        }
    }

    private void put(String text) {
        int[] four = new int[5];
        for (int i = 0; i < text.length(); i += 20) {
            for (int k = 0; k < 20; k++) {
                int c = i + k < text.length() ? text.charAt(i + k) : ' ';
                four[k / 4] = four[k / 4] << 8 | c;
            }
            call("feed", four[0], four[1], four[2], four[3], four[4]);
        }
        call("end", text.length());
        told.append("\n  ").append(text);
    }

    private int value(Object bound) {
        if (bound.equals("state")) {
            return pick(0, 20) == 0 ? pick(-1, 1 << bends) : pick(0, (1 << bends) - 1);
        }
        int most = (Integer) bound;
        if (most == 9 && pick(0, 9) > 0) {
            return pick(0, bends);
        }
        return pick(0, 60) == 0 ? random.nextInt() : pick(-1, most);
    }

    private void callOf(Object[] call) {
        int[] args = new int[call.length - 1];
        for (int i = 0; i < args.length; i++) {
            args[i] = value(call[i + 1]);
        }
        if (call[0].equals("see")) {
            StringBuilder rows = new StringBuilder();
            for (int n = pick(0, 20) == 0 ? 9 : pick(0, 2); n > 0; n--) {
                int f = pick(0, 30) == 0 ? 0 : pick(1, Math.max(1, bends));
                int length = Math.max(0, plain.flange(f, 9)) + (pick(0, 3) == 0 ? pick(0, 9) : 0);
                rows.append((char) f).append((char) (length >> 8)).append((char) (length & 255));
            }
            put(pick(0, 20) == 0 ? rows + " " : rows.toString());
        }
        // the plain model tries every set of turns, each with every order
        if (bends < 7 || !call[0].equals("mends") || pick(0, 40) == 0) {
            call((String) call[0], args);
        }
    }

    /** What depends on states, all of it. */
    private void sweepStates() {
        for (int state = 0; state < 1 << bends; state++) {
            for (int k = -1; k < 3; k++) {
                call("clash", state, k);
            }
            for (int b = 1; b <= bends; b++) {
                call("meets", b, state);
                call("why", b, state);
            }
        }
    }

    /** What depends on orders from the state there is. */
    private void sweepOrders() {
        for (int b = 1; b <= bends; b++) {
            call("turned", b);
            call("mayBeLast", b);
            for (int other = 0; other <= bends; other++) {
                call("ahead", b, other);
            }
        }
        for (int what = 0; what < 4; what++) {
            call("reached", what);
            call("overlap", what - 1, what / 2);
            call("fewest", what);
            call("thrifty", 0, what);
            call("thrifty", 1, what);
        }
        call("tallest");
        if (bends < 7) {
            call("mends");
        }
    }

    /** The parts of PromiseTest, each with low punches and a high one, from a few states. */
    private int runKnown() {
        for (String text : PromiseTest.PARTS) {
            put(text);
            call("part");
            bends = Math.max(0, plain.has(0) - 1);
            for (int n = 0; n < (bends > 6 ? 2 : 5); n++) {
                sweepStates();
                sweepOrders();
                call("lay", pick(0, (1 << bends) - 1));
                call("press", n < 3 ? n + 1 : pick(4, 99));
            }
        }
        return wrong;
    }

    private int run(int rounds) {
        for (int round = 0; round < rounds; round++) {
            String text = parts.good();
            put(text);
            call("part");
            call("fault", 0);
            call("fault", 1);
            bends = Math.max(0, plain.has(0) - 1);
            if (bends < 6) {
                sweepStates();
            }
            for (int n = 0; n < 3 && bends < 6; n++) {
                sweepOrders();
                call("lay", 1 << pick(0, Math.max(0, bends - 1)));
            }
            for (int n = bends > 6 ? 15 : 50; n > 0; n--) {
                boolean act = pick(0, 4) == 0;
                callOf(act ? ACTS[pick(0, ACTS.length - 1)] : CALLS[pick(0, CALLS.length - 1)]);
            }
            for (int n = 0; n < 6; n++) {
                put(parts.spoilt(text));
                call("part");
                call("fault", 0);
                call("fault", 1);
                call("has", 0);
            }
            bends = Math.max(0, plain.has(0) - 1);
        }
        return wrong;
    }

    public static void main(String[] args) {
        int first = args.length > 0 ? Integer.parseInt(args[0]) : 1;
        int runs = args.length > 1 ? Integer.parseInt(args[1]) : 100;
        int wrong = new RandomTest(first).runKnown();
        for (int seed = first; seed < first + runs; seed++) {
            int found = new RandomTest(seed).run(4);
            if (found > 0) {
                System.out.println("seed " + seed + ": " + found + " answers are not as due");
            }
            wrong += found;
        }
        System.out.println("RandomTest: " + (wrong == 0 ? "all answers are as due" : wrong + " are not as due"));
        if (wrong != 0) {
            System.exit(1);
        }
    }
}
