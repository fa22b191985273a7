import java.io.IOException;
import java.lang.reflect.Constructor;
import java.lang.reflect.Field;
import java.lang.reflect.Method;
import java.lang.reflect.Modifier;
import java.nio.file.Files;
import java.nio.file.Path;
import java.util.Arrays;
import java.util.Map;
import java.util.TreeMap;
import java.util.TreeSet;
import java.util.regex.Matcher;
import java.util.regex.Pattern;

/** What of ../shared/LANGUAGE.md can be seen from the face and the text of the class. */
public final class LanguageTest {
    private static final String FACE = "letter(int) game() bowl(int,int) put(int,int) set(int,int) move(int) by(int,int) "
        + "behind(int,int) empties(int) longest() best(int) worth(int) lost() back(int) loop(int,int) toEmpty(int,int) "
        + "price(int) sold(int) change() fair() sounds(int) next(int) played(int) row(int) judge() lots(int,int) "
        + "image() on() count(int)";
    private static final String[] FORBIDDEN = {"throw", "throws", "try", "catch", "synchronized", "assert", "->", "::",
        "package", "protected", "finally", "System\\.(?!arraycopy)", "Thread", "Random", "Exact", "(Integer|Long)\\.M[AI]", "volatile", "native",
        "hashCode", "toString", "import(?! java\\.util\\.Arrays;)", "@", "(?<!private )static (final )?\\w+(\\[\\])* \\w+ ="};
    private static int wrong = 0;

    private static void fault(String what) {
        wrong++;
        System.out.println(what);
    }

    public static void main(String[] args) throws IOException {
        face();
        fields();
        String root = System.getProperty("project.root", ".");
        String text = Files.readString(Path.of(root, "src/main/java/PurseOfNineBowls.java"));
        words(text);
        methods(text);
        System.out.println(wrong == 0 ? "the language is kept" : wrong + " faults of language");
        if (wrong != 0) {
            System.exit(1);
        }
    }

    private static void face() {
        Class<?> c = PurseOfNineBowls.class;
        if (!Modifier.isFinal(c.getModifiers()) || !Modifier.isPublic(c.getModifiers())) {
            fault("the class is not public and final");
        }
        TreeSet<String> due = new TreeSet<>(Arrays.asList(FACE.split(" ")));
        TreeSet<String> names = new TreeSet<>();
        for (String method : due) {
            names.add(method.substring(0, method.indexOf('(')));
        }
        for (Method m : c.getDeclaredMethods()) {
            String shown = m.getName() + Arrays.toString(m.getParameterTypes()).replace("[", "(").replace("]", ")")
                .replace(" ", "");
            if (Modifier.isPublic(m.getModifiers())) {
                if (!due.remove(shown) || m.getReturnType() != int.class || Modifier.isStatic(m.getModifiers())) {
                    fault("not of the face: " + m);
                }
            } else if (!Modifier.isPrivate(m.getModifiers()) || names.contains(m.getName())) {
                fault("neither private nor public, or with a public one's name: " + m);
            }
        }
        if (!due.isEmpty()) {
            fault("lacks " + due);
        }
        for (Constructor<?> made : c.getDeclaredConstructors()) {
            if (!Modifier.isPublic(made.getModifiers()) || made.getParameterCount() != 0) {
                fault("another constructor: " + made);
            }
        }
    }

    private static void fields() {
        check(PurseOfNineBowls.class);
        if (PurseOfNineBowls.class.getDeclaredClasses().length > 11) {
            fault("too many classes");
        }
        for (Class<?> inner : PurseOfNineBowls.class.getDeclaredClasses()) {
            check(inner);
            if (!Modifier.isStatic(inner.getModifiers()) || Modifier.isPublic(inner.getModifiers())) {
                fault("not static, or public: " + inner);
            }
        }
    }

    private static void check(Class<?> c) {
        int own = 0;
        for (Field f : c.getDeclaredFields()) {
            own += Modifier.isStatic(f.getModifiers()) ? 0 : 1;
            if (!Modifier.isPrivate(f.getModifiers())) {
                fault("not private: " + f);
            }
            if (Modifier.isStatic(f.getModifiers()) && (!Modifier.isFinal(f.getModifiers()) || f.getType() != int.class)) {
                fault("not a constant: " + f);
            }
        }
        for (Method m : c.getDeclaredMethods()) {
            if (m.getParameterCount() > 7) {
                fault("too many parameters: " + m);
            }
        }
        if (own > 20) {
            fault("too many fields: " + c);
        }
    }

    private static void words(String text) {
        String bare = text.replaceAll("(?s)/\\*.*?\\*/", "").replaceAll("//[^\n]*", "");
        for (String word : FORBIDDEN) {
            String whole = Character.isLetter(word.charAt(0)) ? "\\b" + word : word;
            Matcher m = Pattern.compile(whole + (Character.isLetter(word.charAt(word.length() - 1)) ? "\\b" : "")).matcher(bare);
            if (m.find()) {
                fault("forbidden: " + m.group());
            }
        }
        for (int i = 0; i < text.length(); i++) {
            if (text.charAt(i) > 126) {
                fault("a sign above 126 at " + i);
            }
        }
    }

    /** Methods stay short: some sixty lines from their head to their end. */
    private static void methods(String text) {
        Map<String, Integer> open = new TreeMap<>();
        String[] lines = text.split("\n");
        Pattern head = Pattern.compile("^( +)[\\w\\[\\] ]*\\w+\\(.*\\) \\{$");
        for (int i = 0; i < lines.length; i++) {
            Matcher m = head.matcher(lines[i]);
            if (m.matches() && (m.group(1).length() == 4 || m.group(1).length() == 8 && !lines[i].contains(" if ")
                && !lines[i].contains(" for ") && !lines[i].contains(" while ") && !lines[i].contains(" switch "))) {
                open.put(m.group(1) + "}", i);
            } else if (open.containsKey(lines[i]) && i - open.remove(lines[i]) > 60) {
                fault("a long method ends in line " + (i + 1));
            }
        }
    }
}
