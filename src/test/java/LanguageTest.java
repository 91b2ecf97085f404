import com.sun.management.ThreadMXBean;
import java.io.IOException;
import java.lang.management.ManagementFactory;
import java.lang.reflect.Constructor;
import java.lang.reflect.Field;
import java.lang.reflect.Method;
import java.lang.reflect.Modifier;
import java.nio.file.Files;
import java.nio.file.Path;
import java.util.ArrayList;
import java.util.Arrays;
import java.util.List;
import java.util.TreeSet;
import java.util.regex.Matcher;
import java.util.regex.Pattern;

/** The rules of ../shared/LANGUAGE.md that can be seen from the source and from the compiled classes. */
public final class LanguageTest {
    private static final String FACE = "feed end stiff ring stone water warmth gauge lead pipe frost reading mandate"
            + " fault annul as lean settled load above force may breaches breach right fit odd spoon spoons drawn"
            + " bursts first cause forget lurch sets all";
    /** By rule: what the source may not have once comments and texts are out of it. */
    private static final String[][] FORBIDDEN = {
        {"2", "->"}, {"2", "::"}, {"3", "\\bvar\\b"}, {"4", "Exact\\b"}, {"4", "\\bjava\\.(?!util\\.Arrays;)"},
        {"4", "\\bSystem\\.(?!arraycopy)"}, {"4", "\\bMath\\.(?!(max|min|abs|floorDiv|floorMod)\\()"},
        {"4", "\\bArrays\\.(?!(fill|copyOf|copyOfRange)\\()"}, {"5", "\\bstatic (?!final )(int|long|boolean|char|String)\\w* \\w+ *[=;]"},
        {"6", "\\b(throw|throws|try|catch|finally|synchronized|assert|record|volatile|native)\\b"},
        {"6", "\\b(equals|hashCode|toString)\\("}, {"9", "while \\(true\\)"}, {"9", "for \\(;"}, {"10", "\"\\s*\\+|\\+\\s*\""},
        {"13", "\\b(Random|Thread|Runtime|currentTimeMillis|nanoTime)\\b"}};

    private static int wrong;

    public static void main(String[] args) throws IOException {
        String source = Files.readString(Path.of("src/main/java/LeaningTower.java"));
        face();
        classesInside();
        String code = stripped(source);
        for (String[] rule : FORBIDDEN) {
            Matcher found = Pattern.compile(rule[1]).matcher(code);
            if (found.find()) {
                refuse(rule[0], "has " + found.group());
            }
        }
        if (source.chars().anyMatch(c -> c > 127)) {
            refuse("4", "a sign above 127");
        }
        methodLengths(code);
        room();
        System.out.println(wrong == 0 ? "LanguageTest: the rules are kept" : wrong + " rules are not kept");
        if (wrong != 0) {
            System.exit(1);
        }
    }

    private static void refuse(String rule, String what) {
        wrong++;
        System.out.println("rule " + rule + ": " + what);
    }

    private static String stripped(String source) {
        return source.replaceAll("(?s)/\\*.*?\\*/", "").replaceAll("//[^\n]*", "").replaceAll("\"[^\"\n]*\"", "\"\"");
    }

    private static void face() {
        TreeSet<String> due = new TreeSet<>(Arrays.asList(FACE.split(" ")));
        TreeSet<String> found = new TreeSet<>();
        for (Method method : LeaningTower.class.getDeclaredMethods()) {
            if (Modifier.isPublic(method.getModifiers())) {
                found.add(method.getName());
            } else if (!Modifier.isPrivate(method.getModifiers())) {
                refuse("1", "is seen outside: " + method);
            }
        }
        if (!found.equals(due)) {
            refuse("1", "the public methods are " + found);
        }
        for (Field field : LeaningTower.class.getDeclaredFields()) {
            if (!Modifier.isPrivate(field.getModifiers()) && !field.getName().equals("NONE")) {
                refuse("1", "is seen outside: " + field);
            }
        }
        if (!Modifier.isFinal(LeaningTower.class.getModifiers())) {
            refuse("1", "the class is not final");
        }
    }

    private static void classesInside() {
        List<Class<?>> classes = new ArrayList<>(Arrays.asList(LeaningTower.class.getDeclaredClasses()));
        for (Class<?> inside : classes) {
            if (!Modifier.isStatic(inside.getModifiers()) || Modifier.isPublic(inside.getModifiers())) {
                refuse("2", inside.getName() + " is not static or is public");
            }
        }
        classes.add(LeaningTower.class);
        if (classes.size() > 12) {
            refuse("11", classes.size() + " classes");
        }
        List<String> face = Arrays.asList(FACE.split(" "));
        for (Class<?> each : classes) {
            int fields = 0;
            for (Field field : each.getDeclaredFields()) {
                fields += Modifier.isStatic(field.getModifiers()) ? 0 : 1;
            }
            if (fields > 20) {
                refuse("11", each.getName() + " has " + fields + " fields");
            }
            for (Method method : each.getDeclaredMethods()) {
                if (method.getParameterCount() > 7) {
                    refuse("11", method + " has too many parameters");
                }
                if (each != LeaningTower.class && face.contains(method.getName())) {
                    refuse("1", method + " bears the name of a public one");
                }
            }
            for (Constructor<?> constructor : each.getDeclaredConstructors()) {
                if (constructor.getParameterCount() > 7) {
                    refuse("11", constructor + " has too many parameters");
                }
            }
        }
    }

    private static void methodLengths(String code) {
        String[] lines = code.split("\n");
        for (int i = 0; i < lines.length; i++) {
            Matcher head = Pattern.compile("^( {4}| {8})(?! ).*\\(.*\\{$").matcher(lines[i]);
            if (!head.find()) {
                continue;
            }
            int last = i + 1;
            while (last < lines.length && !lines[last].equals(head.group(1) + "}")) {
                last++;
            }
            if (last - i + 1 > 60) {
                refuse("11", "is long: " + lines[i].trim());
            }
        }
    }

    /** The dearest runs: what they make is far below the room that all calls of one run live in. */
    private static void room() {
        ThreadMXBean threads = (ThreadMXBean) ManagementFactory.getThreadMXBean();
        long thread = Thread.currentThread().getId();
        for (int kind = 0; kind <= 4; kind++) {
            run(kind);
            long made = threads.getThreadAllocatedBytes(thread);
            run(kind);
            made = threads.getThreadAllocatedBytes(thread) - made;
            // A field or an element has eight bytes at most; a twentieth of the room is more than enough.
            if (made > 8 * 7300000 / 20) {
                refuse("12", "a run of kind " + kind + " makes " + made + " bytes");
            }
        }
    }

    private static void run(int kind) {
        LeaningTower x = new LeaningTower();
        for (int k = 0; k < 3; k++) {
            x.spoon(k, k, 1 + k);
        }
        for (int call = 3; call < 512; call += 2) {
            if (kind == 0) {
                x.feed(0x6c696d69, 0x74206c65, 0x61642031, 0x2b312b31, 0x2b312b31 + call % 2);
                x.mandate(call % 400);
            } else if (kind == 1) {
                x.spoons(0, 8, -1000000000 + call, 1000000000);
                x.breaches();
            } else if (kind == 2) {
                x.reading(0, call % 400, call);
                x.odd(0, 399);
            } else if (kind == 3) {
                x.lead(1, 1, 0, 399);
                x.as(call % 8);
            } else {
                x.cause(call, call);
                x.lurch(call, true);
            }
        }
    }
}
