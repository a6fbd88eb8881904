import java.lang.reflect.Constructor;
import java.lang.reflect.Field;
import java.lang.reflect.Method;
import java.lang.reflect.Modifier;
import java.nio.file.Files;
import java.nio.file.Path;
import java.util.ArrayList;
import java.util.List;
import java.util.Set;
import java.util.TreeSet;
import java.util.regex.Matcher;
import java.util.regex.Pattern;

/** The rules of LANGUAGE.md that can be read off the program's text and its classes; the others are for readers. */
public final class LanguageTest {
    private static final String EXCEPTION = "(?:IllegalState|IllegalArgument|IndexOutOfBounds|Arithmetic"
        + "|UnsupportedOperation|NoSuchElement|Runtime)Exception";
    /** What the program uses of the library; more of what rule 4 lists may be added here. */
    private static final Set<String> LIBRARY = Set.of("Math.min(", "Math.max(", "Math.abs(");
    private static final Set<Class<?>> CONSTANT_TYPES =
        Set.of(int.class, long.class, boolean.class, char.class, String.class);
    private static final int MOST_PARAMETERS = 7;
    private static final int MOST_LINES = 60;
    private static final int MOST_CLASSES = 12;
    private static final int MOST_FIELDS = 20;

    public static void main(String[] args) throws Exception {
        String text = Files.readString(Path.of("src/main/java/HydrantRows.java"));
        String code = withoutCommentsAndTexts(text);
        none("a character above 127", "[^\\x00-\\x7f]", text);
        none("rules 1, 4: import, package", "\\b(import|package)\\b", code);
        none("rule 2: lambda, method reference", "->|::", code);
        none("rule 6: words", "\\b(finally|synchronized|assert)\\b", code);
        // Some kinds of try are within rule 6; the program answers no call by a catch, so it needs none.
        none("rule 6: try", "\\btry\\b", code);
        none("rule 6: throw", "\\bthrow\\b(?! new " + EXCEPTION + "\\((\"\")?\\);)", code);
        none("rule 10: texts joined by +", "\"\\s*\\+|\\+\\s*\"", code);
        none("rule 5: a static initialiser block", "\\bstatic\\s*\\{", code);
        library(code);
        List<Class<?>> classes = classes();
        Check.promise("rule 11: classes");
        Check.answers(true, () -> classes.size() <= MOST_CLASSES);
        for (Class<?> each : classes) {
            fields(each);
            parameters(each);
        }
        lengths(code);
        Check.end();
    }

    /** Texts stay as two quotation marks. The program has no mark of a comment inside a text. */
    private static String withoutCommentsAndTexts(String text) {
        return text.replaceAll("(?s)/\\*.*?\\*/", " ").replaceAll("//[^\n]*", " ").replaceAll("\"[^\"\n]*\"", "\"\"");
    }

    private static void none(String rule, String pattern, String text) {
        Check.promise(rule);
        Matcher found = Pattern.compile(pattern).matcher(text);
        Check.compare("none", found.find() ? "line of '" + lineAround(text, found.start()) + "'" : "none");
    }

    private static String lineAround(String text, int at) {
        int end = text.indexOf('\n', at);
        return text.substring(text.lastIndexOf('\n', at) + 1, end < 0 ? text.length() : end).strip();
    }

    private static List<Class<?>> classes() {
        List<Class<?>> found = new ArrayList<>(List.of(HydrantRows.class.getDeclaredClasses()));
        found.add(HydrantRows.class);
        return found;
    }

    /** Of names with a capital only the program's own, exceptions, and what is listed above. */
    private static void library(String code) {
        Check.promise("rule 4: the library");
        TreeSet<String> own = new TreeSet<>();
        classes().forEach(each -> own.add(each.getSimpleName()));
        TreeSet<String> others = new TreeSet<>();
        Matcher name = Pattern.compile("\\b[A-Z]\\w*[a-z]\\w*\\b(\\.\\w+\\(?)?").matcher(code);
        while (name.find()) {
            String used = name.group();
            if (!own.contains(used) && !LIBRARY.contains(used) && !used.matches(EXCEPTION)) {
                others.add(used);
            }
        }
        Check.answers("[]", () -> others);
    }

    private static void fields(Class<?> each) {
        int counted = 0;
        for (Field field : each.getDeclaredFields()) {
            boolean isStatic = Modifier.isStatic(field.getModifiers());
            counted += isStatic ? 0 : 1;
            if (isStatic) {
                Check.promise("rule 5: " + each.getSimpleName() + "." + field.getName());
                Check.answers(true, () -> Modifier.isFinal(field.getModifiers()));
                Check.answers(true, () -> CONSTANT_TYPES.contains(field.getType()));
            }
        }
        int fields = counted;
        Check.promise("rule 11: fields of " + each.getSimpleName());
        Check.answers(true, () -> fields <= MOST_FIELDS);
    }

    private static void parameters(Class<?> each) {
        for (Method method : each.getDeclaredMethods()) {
            Check.promise("rule 11: parameters of " + method.getName());
            Check.answers(true, () -> method.getParameterCount() <= MOST_PARAMETERS);
        }
        for (Constructor<?> constructor : each.getDeclaredConstructors()) {
            Check.promise("rule 11: parameters of " + constructor.getName());
            Check.answers(true, () -> constructor.getParameterCount() <= MOST_PARAMETERS);
        }
    }

    /** A method's last line is a brace as far in as its first line. */
    private static void lengths(String code) {
        Pattern method = Pattern.compile("(?ms)^( {4}| {8})(?=\\w)[^\n;={]*?(\\w+)\\([^;={]*\\{\n.*?^\\1\\}");
        TreeSet<String> unseen = new TreeSet<>();
        for (Class<?> each : classes()) {
            List.of(each.getDeclaredMethods()).forEach(declared -> unseen.add(declared.getName()));
        }
        Matcher found = method.matcher(code);
        while (found.find()) {
            unseen.remove(found.group(2));
            Check.promise("rule 11: lines of " + found.group(2));
            Check.answers(true, () -> found.group().lines().count() <= MOST_LINES);
        }
        Check.promise("rule 11: methods whose lines were not counted");
        Check.answers("[]", () -> unseen);
    }
}
