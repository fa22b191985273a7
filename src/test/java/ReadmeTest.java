import java.io.IOException;
import java.lang.reflect.Method;
import java.nio.file.Files;
import java.nio.file.Path;
import java.util.Map;
import java.util.TreeMap;
import java.util.TreeSet;
import java.util.regex.Matcher;
import java.util.regex.Pattern;

/** README.md: the answers of its example, a row for each call, and the refusals that the document names. */
public final class ReadmeTest {
    private static final Pattern TEXT = Pattern.compile("for \\(char c : \"(.*)\"\\.toCharArray\\(\\)\\) \\{");
    private static final Pattern CALL = Pattern.compile("x\\.(\\w+)\\(([-\\d, ]*)\\); +// (-?\\d+):.*");
    private static final Pattern ROW = Pattern.compile("\\| `(\\w+)\\(.*\\)` \\| (.*) \\|([-\\d ]*)\\|");
    private static final Pattern REFUSAL_ROW = Pattern.compile("\\| (-\\d) \\| (\\d+|\\(none does\\)) \\| .* \\| `count\\((\\d+)\\)` \\|");
    private static final Pattern STATEMENT = Pattern.compile("\\| `(\\w)` \\| .* \\| `(.*)` \\|");
    private static final Pattern PROMISE = Pattern.compile("(?m)^`int (\\w+)\\([\\w, ]*\\)`: (.*)$");
    private static final Pattern NUMBER = Pattern.compile("-[1-6]\\b");
    private static int checked = 0;
    private static int wrong = 0;

    public static void main(String[] args) throws IOException, ReflectiveOperationException {
        String root = System.getProperty("project.root", ".");
        String readme = Files.readString(Path.of(root, "README.md"));
        example(readme.split("\n"));
        statements(readme.split("\n"));
        calls(readme.split("\n"), Path.of(root, "../shared/DOC.md"));
        refusals(readme.split("\n"));
        System.out.println(wrong == 0 ? checked + " lines of README.md are as due" : wrong + " are not as due");
        if (wrong != 0) {
            System.exit(1);
        }
    }

    private static void due(String what, Object got, Object want) {
        checked++;
        if (!got.equals(want)) {
            wrong++;
            System.out.println(what + ": " + got + ", due is " + want);
        }
    }

    private static void tell(PurseOfNineBowls x, String text) {
        for (char c : text.toCharArray()) {
            x.letter(c);
        }
    }

    private static int call(PurseOfNineBowls x, String name, String arguments) throws ReflectiveOperationException {
        String[] parts = arguments.isEmpty() ? new String[0] : arguments.split(", ");
        Class<?>[] types = new Class<?>[parts.length];
        Object[] values = new Object[parts.length];
        for (int i = 0; i < parts.length; i++) {
            types[i] = int.class;
            values[i] = Integer.valueOf(parts[i]);
        }
        return (Integer) PurseOfNineBowls.class.getMethod(name, types).invoke(x, values);
    }

    private static void example(String[] lines) throws ReflectiveOperationException {
        PurseOfNineBowls x = new PurseOfNineBowls();
        int called = 0;
        for (String line : lines) {
            Matcher text = TEXT.matcher(line);
            if (text.matches()) {
                tell(x, text.group(1));
            }
            Matcher m = CALL.matcher(line);
            if (m.matches()) {
                due(line, call(x, m.group(1), m.group(2)), Integer.valueOf(m.group(3)));
                called++;
            }
        }
        due("an example with ten calls and more", called >= 10, true);
    }

    /** Each statement's example is a game by itself, behind bowls that can make its moves. */
    private static void statements(String[] lines) {
        StringBuilder letters = new StringBuilder();
        for (String line : lines) {
            Matcher m = STATEMENT.matcher(line);
            if (m.matches()) {
                PurseOfNineBowls x = new PurseOfNineBowls();
                tell(x, "bd09;bd09;bd09;" + m.group(2));
                due(line, x.game(), 4);
                due(line, m.group(2).substring(0, 1), m.group(1));
                letters.append(m.group(1));
            }
        }
        due("the statements", letters.toString(), "bflcts");
    }

    private static void calls(String[] lines, Path document) throws IOException {
        Map<String, String> told = new TreeMap<>();
        for (String line : lines) {
            Matcher m = ROW.matcher(line);
            if (m.matches()) {
                told.put(m.group(1), m.group(3).trim());
            }
        }
        TreeSet<String> names = new TreeSet<>();
        for (Method m : PurseOfNineBowls.class.getMethods()) {
            if (m.getDeclaringClass() == PurseOfNineBowls.class) {
                names.add(m.getName());
            }
        }
        due("the calls", told.keySet(), names);
        if (!Files.isReadable(document)) {
            System.out.println("no " + document + ": the refusals of each call are not compared");
            return;
        }
        Matcher promise = PROMISE.matcher(Files.readString(document));
        while (promise.find()) {
            // count tells how many refusals there were; it refuses nothing.
            String due = promise.group(1).equals("count") ? "" : refusalsIn(promise.group(2));
            due("refusals of " + promise.group(1), told.get(promise.group(1)), due);
        }
    }

    private static String refusalsIn(String promise) {
        TreeSet<String> found = new TreeSet<>();
        Matcher m = NUMBER.matcher(promise);
        while (m.find()) {
            found.add(m.group());
        }
        return String.join(" ", found);
    }

    /** Each refusal is told near by one call and far above by another, and is counted where README.md says. */
    private static void refusals(String[] lines) {
        int rows = 0;
        for (String line : lines) {
            Matcher m = REFUSAL_ROW.matcher(line);
            if (!m.matches()) {
                continue;
            }
            rows++;
            int number = Integer.parseInt(m.group(1));
            int counted = Integer.parseInt(m.group(3));
            PurseOfNineBowls x = new PurseOfNineBowls();
            due(line, refusedBy(x, number), number);
            due(line, x.count(counted), 1);
            if (number != -2) {
                due(line, m.group(2), String.valueOf(refusedFar(x, number)));
                due(line, x.count(counted), 2);
            }
        }
        due("rows of refusals", rows, 5);
    }

    private static int refusedBy(PurseOfNineBowls x, int number) {
        switch (number) {
            case -1: return x.move(0);
            case -2: return x.played(2);
            case -3: return x.on();
            case -4: return x.letter(-1);
            default: return x.row(10);
        }
    }

    private static int refusedFar(PurseOfNineBowls x, int number) {
        switch (number) {
            case -1: return x.price(0);
            case -3: return x.lots(1, 1);
            case -4: return x.worth(0);
            default: return x.worth(5);
        }
    }
}
