import java.lang.reflect.Method;
import java.util.Arrays;
import java.util.List;
import java.util.TreeSet;

/** What the tests by hand share: texts onto the tape, and answers held against those that are due. */
abstract class Check {
    static final int NONE = SheetFolds.NONE;
    static final int NOTHING = SheetFolds.NOTHING;
    static final String SHEET = "sheet thick 1 base 9 8;";

    /** The document's text; empty when it was not given, and then no sentence is looked up in it. */
    static String document = "";
    static final TreeSet<Integer> promises = new TreeSet<>();
    static int wrong;
    private static String where = "";

    /** The promise that the next answers belong to. */
    static void promise(int number) {
        where = "promise " + number;
        promises.add(number);
    }

    /** The sentence of a promise that would be broken by wrong answers behind this. */
    static void says(int number, String words) {
        promise(number);
        quote("## Promise " + number + ":", words);
    }

    /** The sentence of the Terms that would be broken by wrong answers behind this. */
    static void terms(String words) {
        where = "Terms";
        quote("## Terms", words);
    }

    private static void quote(String heading, String words) {
        int from = document.indexOf(heading);
        int to = document.indexOf("\n## ", from + 1);
        String section = from < 0 ? "" : document.substring(from, to < 0 ? document.length() : to);
        where += ", \"" + words + '"';
        if (!document.isEmpty() && !section.contains(words)) {
            wrong++;
            System.out.println(where + " is not in the document");
        }
    }

    static void due(String call, long got, long want) {
        if (got != want) {
            wrong++;
            System.out.println(where + ": " + call + " answered " + got + ", due is " + want);
        }
    }

    static void due(String call, boolean got, boolean want) {
        due(call, got ? 1 : 0, want ? 1 : 0);
    }

    /** Numbers just outside of a range, and as far outside as can be. */
    static int[] outside(int least, int most) {
        return new int[] {Integer.MIN_VALUE, least - 1, most + 1, most + 256, Integer.MAX_VALUE};
    }

    static void put(SheetFolds x, String text) {
        int whole = (text.length() + 19) / 20 * 20;
        StringBuilder padded = new StringBuilder(text);
        while (padded.length() < whole) {
            padded.append(' ');
        }
        for (int i = 0; i < whole; i += 20) {
            x.feed(four(padded, i), four(padded, i + 4), four(padded, i + 8), four(padded, i + 12), four(padded, i + 16));
        }
        x.end(text.length());
    }

    private static int four(CharSequence s, int i) {
        return s.charAt(i) << 24 | s.charAt(i + 1) << 16 | s.charAt(i + 2) << 8 | s.charAt(i + 3);
    }

    static SheetFolds of(String text) {
        SheetFolds x = new SheetFolds();
        put(x, text);
        if (x.part() == NONE) {
            wrong++;
            System.out.println(where + ": fault " + x.fault(0) + " at " + x.fault(1) + " in " + text);
        }
        return x;
    }

    static void faulty(String text, int kind, int place) {
        SheetFolds x = new SheetFolds();
        put(x, text);
        due("part() of " + text, x.part(), kind == 0 ? text.chars().filter(c -> c == ';').count() : NONE);
        due("fault(0) of " + text, x.fault(0), kind);
        due("fault(1) of " + text, x.fault(1), place);
    }

    /** A text without a fault. */
    static void good(String text) {
        faulty(text, 0, NONE);
    }

    /** A text with a fault where the sign ^ stands, which is no byte of it. */
    static void bad(int kind, String text) {
        int place = text.indexOf('^');
        faulty(text.substring(0, place) + text.substring(place + 1), kind, place);
    }

    /** All that can be asked about the part of two objects, held against one another. */
    static void alike(String when, SheetFolds one, SheetFolds other) {
        for (Method m : SheetFolds.class.getMethods()) {
            boolean asks = m.getDeclaringClass() == SheetFolds.class && m.getReturnType() == int.class
                    && !List.of("feed", "part", "fault", "see", "bend", "follow", "chance", "status").contains(m.getName());
            for (int a = -1; asks && a <= (m.getParameterCount() > 0 ? 17 : -1); a++) {
                for (int b = -1; b <= (m.getParameterCount() > 1 ? 17 : -1); b++) {
                    askBoth(when, m, one, other, a, b);
                }
            }
        }
    }

    private static void askBoth(String when, Method m, SheetFolds one, SheetFolds other, int a, int b) {
        Object[] all = {a, b};
        Object[] args = Arrays.copyOf(all, m.getParameterCount());
        try {
            due(when + ": " + m.getName() + Arrays.toString(args), (Integer) m.invoke(one, args), (Integer) m.invoke(other, args));
        } catch (ReflectiveOperationException e) {
            throw new IllegalStateException(m.getName() + Arrays.toString(args), e);
        }
    }

    static void end(String test) {
        System.out.println(test + ": " + (wrong == 0 ? "all answers are as due" : wrong + " are not as due"));
        if (wrong != 0) {
            System.exit(1);
        }
    }
}
