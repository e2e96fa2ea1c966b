import java.io.IOException;
import java.nio.file.Files;
import java.nio.file.Path;
import java.util.Set;
import java.util.TreeSet;
import java.util.regex.Matcher;
import java.util.regex.Pattern;

/** Makes the calls of README.md's blocks of Java in their order: each answers the number behind its comment's sign. */
public final class ReadmeTest {
    private static final String MAKER = "MountainWatch watch = new MountainWatch();";
    private static final Pattern CALL = Pattern.compile("watch\\.(\\w+)\\(([^)]*)\\); +// (-?\\d+)(: .+)?");

    private final Check check = new Check();
    private final Set<String> seen = new TreeSet<>();
    private MountainWatch watch;

    private void line(String where, String line) {
        Matcher m = CALL.matcher(line);
        if (line.equals(MAKER)) {
            watch = new MountainWatch();
        } else if (m.matches() && watch != null) {
            seen.add(m.group(1));
            check.due(where + ": " + line, new Call(m.group(1), numbers(m.group(2))).on(watch),
                    Integer.parseInt(m.group(3)));
        } else {
            check.holds(where + " is a call with its answer: " + line, line.isEmpty());
        }
    }

    private static long[] numbers(String given) {
        String[] parts = given.isEmpty() ? new String[0] : given.split(", ");
        long[] numbers = new long[parts.length];
        for (int i = 0; i < parts.length; i++) {
            numbers[i] = parts[i].equals("true") ? 1 : parts[i].equals("false") ? 0
                    : Long.parseLong(parts[i].replace("L", ""));
        }
        return numbers;
    }

    private void read(Path page) throws IOException {
        boolean within = false;
        int number = 0;
        for (String line : Files.readAllLines(page)) {
            number++;
            if (line.startsWith("```")) {
                within = line.equals("```java");
                watch = null;
            } else if (within) {
                line("line " + number, line);
            }
        }
    }

    private void holdsEveryCall() {
        for (java.lang.reflect.Method m : MountainWatch.class.getMethods()) {
            if (m.getDeclaringClass() == MountainWatch.class) {
                check.holds("README.md shows " + m.getName(), seen.contains(m.getName()));
            }
        }
    }

    public static void main(String[] args) throws IOException {
        ReadmeTest test = new ReadmeTest();
        test.read(Path.of("README.md"));
        test.holdsEveryCall();
        test.check.end();
    }
}
