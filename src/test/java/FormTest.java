import java.io.IOException;
import java.lang.reflect.Constructor;
import java.lang.reflect.Field;
import java.lang.reflect.Method;
import java.lang.reflect.Modifier;
import java.nio.file.Files;
import java.nio.file.Path;
import java.util.ArrayList;
import java.util.List;
import java.util.Set;
import java.util.TreeSet;
import java.util.regex.Matcher;
import java.util.regex.Pattern;

/**
 * The rules of LANGUAGE.md that can be read off the text and the members of the class. It asks for less than they
 * allow: what the class does without (exceptions, texts, lists) is not looked for in its finer points.
 */
public final class FormTest {
    private static final Check CHECK = new Check();
    private static final Path SOURCE = Path.of("src/main/java/MountainWatch.java");
    private static final String[] NOT_USED = {
        "package", "import", "throw", "throws", "try", "catch", "finally", "synchronized", "assert", "volatile",
        "transient", "native", "double", "float", "protected", "instanceof", "var", "yield",
    };
    private static final Set<String> STATIC_TYPES = Set.of("int", "long", "boolean", "char", "java.lang.String");
    private static final int MOST_LINES = 60, MOST_CLASSES = 12, MOST_FIELDS = 20, MOST_PARAMETERS = 7;

    private static List<Class<?>> classes() {
        List<Class<?>> all = new ArrayList<>(List.of(MountainWatch.class.getDeclaredClasses()));
        all.add(MountainWatch.class);
        return all;
    }

    private static void members() {
        CHECK.holds("rule 11: at most " + MOST_CLASSES + " classes", classes().size() <= MOST_CLASSES);
        for (Class<?> c : classes()) {
            int fields = 0;
            for (Field f : c.getDeclaredFields()) {
                boolean isStatic = Modifier.isStatic(f.getModifiers());
                fields += isStatic ? 0 : 1;
                CHECK.holds("rule 5: " + f, !isStatic
                        || Modifier.isFinal(f.getModifiers()) && STATIC_TYPES.contains(f.getType().getName()));
            }
            CHECK.holds("rule 11: fields of " + c, fields <= MOST_FIELDS);
            for (Method m : c.getDeclaredMethods()) {
                CHECK.holds("rule 11: parameters of " + m, m.getParameterCount() <= MOST_PARAMETERS);
                CHECK.holds("rule 2: no lambda, " + m, !m.isSynthetic());
            }
            for (Constructor<?> made : c.getDeclaredConstructors()) {
                CHECK.holds("rule 11: parameters of " + made, made.getParameterCount() <= MOST_PARAMETERS);
            }
        }
    }

    private static void characters(String text) {
        Matcher odd = Pattern.compile("[^\\n -~]").matcher(text);
        CHECK.holds("rule 4: signs are of ASCII, and no tabs", !odd.find());
    }

    private static void words(String code) {
        for (String word : NOT_USED) {
            CHECK.holds("without the word " + word, !Pattern.compile("\\b" + word + "\\b").matcher(code).find());
        }
        for (String sign : new String[] {"->", "::", "@", "\""}) {
            CHECK.holds("without the sign " + sign, !code.contains(sign));
        }
        Set<String> own = new TreeSet<>(Set.of("Math"));
        for (Class<?> c : classes()) {
            own.add(c.getSimpleName());
        }
        Matcher names = Pattern.compile("\\b[A-Z]\\w*[a-z]\\w*").matcher(code);
        while (names.find()) {
            CHECK.holds("rule 4: " + names.group() + " is a class inside, or Math", own.contains(names.group()));
        }
        Matcher math = Pattern.compile("Math\\.(\\w+)").matcher(code);
        while (math.find()) {
            CHECK.holds("rule 4: " + math.group(), Set.of("max", "min", "abs").contains(math.group(1)));
        }
    }

    /** Rows are made with their objects, so that no call makes one (rule 12). */
    private static void objects(String code) {
        for (String line : code.split("\n")) {
            CHECK.holds("rule 12: made by a field or a constructor: " + line.strip(), !line.contains("new ")
                    || line.strip().matches("(final \\w+\\[\\] \\w+ = new \\w+\\[.*\\];|\\w+ = new [A-Z]\\w+\\(\\);)"));
        }
    }

    private static void methods(String code) {
        String[] lines = code.split("\n");
        Pattern head = Pattern.compile("( {4}| {8})[a-z][^=;]*\\(.*");
        int found = 0;
        for (int i = 0; i < lines.length; i++) {
            Matcher m = head.matcher(lines[i]);
            if (m.matches() && !lines[i].strip().matches("(if|for|while|switch|return|do)\\b.*")) {
                int end = i;
                while (end < lines.length && !lines[end].equals(m.group(1) + "}")) {
                    end++;
                }
                found++;
                CHECK.holds("rule 11: lines of " + lines[i].strip(), end - i < MOST_LINES);
            }
        }
        CHECK.holds("methods were found", found > 28);
    }

    /** Rule 9: each loop counts up or down by one against a bound. */
    private static void loops(String code) {
        Pattern counted = Pattern.compile("for \\(int (\\w+) = [^;]+; \\1 (<|<=|>=) [^;]+; \\1(\\+\\+|--)\\) \\{");
        for (String line : code.split("\n")) {
            CHECK.holds("rule 9: " + line.strip(), !line.matches(".*\\b(for|while|do)\\b.*")
                    || counted.matcher(line.strip()).matches());
        }
    }

    public static void main(String[] args) throws IOException {
        String text = Files.readString(SOURCE);
        String code = text.replaceAll("(?s)/\\*.*?\\*/", "").replaceAll("//[^\n]*", "");
        members();
        characters(text);
        words(code);
        objects(code);
        methods(code);
        loops(code);
        CHECK.end();
    }
}
