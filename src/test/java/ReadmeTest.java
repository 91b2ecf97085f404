import java.io.IOException;
import java.nio.file.Files;
import java.nio.file.Path;
import java.util.ArrayList;
import java.util.List;
import java.util.Map;
import java.util.TreeMap;
import java.util.regex.Matcher;
import java.util.regex.Pattern;

/** Makes the calls that README.md shows, and holds their answers against those told there; run it from the root. */
public final class ReadmeTest {
    private static final Pattern MADE = Pattern.compile("LeaningTower (\\w+) = new LeaningTower\\(\\);");
    private static final Pattern CALL = Pattern.compile("(\\w+)\\.(\\w+)\\((.*)\\); +// (true|false|-?\\d+)(:.*)?");

    private final Map<String, LeaningTower> towers = new TreeMap<>();

    public static void main(String[] args) throws IOException, ReflectiveOperationException {
        Check.by("README.md");
        ReadmeTest test = new ReadmeTest();
        int calls = 0;
        for (String line : javaLines(Files.readAllLines(Path.of("README.md")))) {
            calls += test.follow(line);
        }
        Check.due("there are calls", calls > 20, true);
        Check.end("ReadmeTest");
    }

    private static List<String> javaLines(List<String> page) {
        List<String> found = new ArrayList<>();
        boolean inside = false;
        for (String line : page) {
            if (line.startsWith("```")) {
                inside = line.equals("```java");
            } else if (inside) {
                found.add(line);
            }
        }
        return found;
    }

    /** One line; how many calls it has. */
    private int follow(String line) throws ReflectiveOperationException {
        Matcher made = MADE.matcher(line);
        if (made.matches()) {
            towers.put(made.group(1), new LeaningTower());
            return 0;
        }
        Matcher call = CALL.matcher(line);
        if (!call.matches() || !towers.containsKey(call.group(1))) {
            Check.due("a line that is no call with its answer: " + line, true, false);
            return 0;
        }
        Object got = answer(towers.get(call.group(1)), call.group(2), given(call.group(3)));
        Check.due(line + " is " + got, got.toString().equals(call.group(4)), true);
        return 1;
    }

    private static String[] given(String all) {
        return all.isEmpty() ? new String[0] : all.split(", *");
    }

    private static Object answer(LeaningTower tower, String name, String[] given) throws ReflectiveOperationException {
        Class<?>[] types = new Class<?>[given.length];
        Object[] values = new Object[given.length];
        for (int i = 0; i < given.length; i++) {
            boolean flag = given[i].equals("true") || given[i].equals("false");
            types[i] = flag ? boolean.class : int.class;
            values[i] = flag ? (Object) given[i].equals("true") : (Object) number(given[i]);
        }
        return LeaningTower.class.getMethod(name, types).invoke(tower, values);
    }

    private static int number(String told) {
        return told.equals("LeaningTower.NONE") ? LeaningTower.NONE : Long.decode(told).intValue();
    }
}
