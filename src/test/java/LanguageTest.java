import java.io.IOException;
import java.lang.reflect.Field;
import java.lang.reflect.Member;
import java.lang.reflect.Method;
import java.lang.reflect.Modifier;
import java.nio.file.Files;
import java.nio.file.Path;
import java.util.ArrayList;
import java.util.Arrays;
import java.util.HashSet;
import java.util.List;
import java.util.Set;
import java.util.TreeSet;
import java.util.regex.Matcher;
import java.util.regex.Pattern;

/** The rules of LANGUAGE.md that can be seen in the source, or in the compiled class. */
public final class LanguageTest {
    private static final Set<String> FACE = Set.of("feed", "end", "part", "fault", "has", "letter", "flange", "tool",
            "allowance", "flat", "flatBox", "overlap", "space", "spaceBox", "gap", "normal", "clash", "meets", "tools",
            "why", "orders", "order", "mayBeLast", "ahead", "reached", "fewest", "thrifty", "tallest", "turned",
            "mends", "lacks", "opens", "smallest", "between", "see", "fits", "tells", "bend", "open", "turn", "lay",
            "follow", "allow", "press", "chance", "undo", "seed", "status");
    private static final List<String> BARRED = List.of("throw", "throws", "try", "catch", "synchronized", "assert",
            "->", "::", "Exact", "System\\.(?!arraycopy)", "Object", "HashMap", "equals", "hashCode", "toString",
            "new \\w+\\[\\w*\\]\\[", "private static final byte ", "\" \\+", "\\+ \"");
    private static final int MOST_LINES = 60;
    private static final int MOST_CLASSES = 12;
    private static final int MOST_FIELDS = 20;
    private static final int MOST_PARAMETERS = 7;
    private static final int MOST_DEEP = 8;

    private static int wrong;

    private static void fail(String what) {
        wrong++;
        System.out.println(what);
    }

    private static void checkMembers() {
        Set<String> seen = new HashSet<>();
        List<Member> members = new ArrayList<>(Arrays.asList(SheetFolds.class.getDeclaredMethods()));
        members.addAll(Arrays.asList(SheetFolds.class.getDeclaredFields()));
        for (Member m : members) {
            boolean open = Modifier.isPublic(m.getModifiers());
            boolean constant = m.getName().equals("NONE") || m.getName().equals("NOTHING");
            if (!open && !Modifier.isPrivate(m.getModifiers())) {
                fail(m.getName() + " is neither public nor private");
            }
            if (m instanceof Method && open) {
                seen.add(m.getName());
            }
            if (open != (m instanceof Method ? FACE.contains(m.getName()) : constant)) {
                fail(m.getName() + " is not as the face says");
            }
        }
        if (!seen.equals(FACE)) {
            fail("the face is " + new TreeSet<>(seen));
        }
        if (SheetFolds.class.getConstructors().length != 1) {
            fail("one public constructor is due");
        }
    }

    private static void checkClass(Class<?> c) {
        int fields = 0;
        for (Field f : c.getDeclaredFields()) {
            boolean fixed = Modifier.isStatic(f.getModifiers());
            fields += fixed ? 0 : 1;
            if (fixed && !Modifier.isFinal(f.getModifiers())) {
                fail(c.getName() + "." + f.getName() + " is static and not final");
            }
        }
        if (fields > MOST_FIELDS) {
            fail(c.getName() + " has " + fields + " fields");
        }
        for (Method m : c.getDeclaredMethods()) {
            if (m.getParameterCount() > MOST_PARAMETERS) {
                fail(c.getName() + "." + m.getName() + " has too many parameters");
            }
            if (c != SheetFolds.class && FACE.contains(m.getName())) {
                fail(c.getName() + "." + m.getName() + " bears a name of the face");
            }
        }
    }

    private static void checkWords(String source) {
        String code = source.replaceAll("(?s)/\\*.*?\\*/", "").replaceAll("//[^\n]*", "");
        for (String word : BARRED) {
            String pattern = Character.isLetter(word.charAt(0)) && word.matches("\\w+") ? "\\b\\w*" + word + "\\b" : word;
            Matcher m = Pattern.compile(pattern).matcher(code);
            if (m.find()) {
                fail("not of the language: " + m.group());
            }
        }
        for (int i = 0; i < source.length(); i++) {
            if (source.charAt(i) > 126) {
                fail("a sign beyond 126 at " + i);
            }
        }
    }

    /** The lines of each method, by the brace at its indent; the calls it makes, by name. */
    private static void checkMethods(String source) {
        List<String> names = new ArrayList<>();
        List<String> bodies = new ArrayList<>();
        Matcher m = Pattern.compile("(?m)^( +)(?:public|private)[^;=\n]*?(\\w+)\\([^;=]*?\\) \\{\n(.*?)^\\1\\}",
                Pattern.DOTALL | Pattern.MULTILINE).matcher(source);
        while (m.find()) {
            names.add(m.group(2));
            bodies.add(m.group(3));
            long lines = m.group(3).lines().count();
            if (lines > MOST_LINES) {
                fail(m.group(2) + " has " + lines + " lines");
            }
        }
        for (int i = 0; i < names.size(); i++) {
            int deep = depth(i, names, bodies, 0);
            if (deep > MOST_DEEP) {
                fail(names.get(i) + " goes " + deep + " calls deep");
            }
        }
    }

    private static int depth(int i, List<String> names, List<String> bodies, int above) {
        int most = 0;
        if (above > MOST_DEEP + 4) {
            return 1;
        }
        for (int j = 0; j < names.size(); j++) {
            if (j != i && Pattern.compile("(?<!new )\\b" + names.get(j) + "\\(").matcher(bodies.get(i)).find()) {
                most = Math.max(most, depth(j, names, bodies, above + 1));
            }
        }
        return most + 1;
    }

    public static void main(String[] args) throws IOException {
        String source = Files.readString(Path.of(args.length > 0 ? args[0] : "src/main/java/SheetFolds.java"));
        checkMembers();
        checkClass(SheetFolds.class);
        for (Class<?> c : SheetFolds.class.getDeclaredClasses()) {
            checkClass(c);
        }
        if (SheetFolds.class.getDeclaredClasses().length + 1 > MOST_CLASSES) {
            fail("too many classes");
        }
        checkWords(source);
        checkMethods(source);
        System.out.println("LanguageTest: " + (wrong == 0 ? "all is as due" : wrong + " things are not as due"));
        if (wrong != 0) {
            System.exit(1);
        }
    }
}
