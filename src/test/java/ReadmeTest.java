import java.io.IOException;
import java.lang.reflect.Field;
import java.lang.reflect.Method;
import java.lang.reflect.Modifier;
import java.nio.file.Files;
import java.nio.file.Path;
import java.util.regex.Matcher;
import java.util.regex.Pattern;

/** README.md tells what is so: the answers in its example, and a row for each call and each constant of the class. */
public final class ReadmeTest {
    /** One line of the example: "int due = room.claim(tag);  // 16: size 2". */
    private static final Pattern LINE = Pattern.compile("(?:int (\\w+) = )?room\\.(\\w+)\\(([^)]*)\\);\\s*// (-?\\d+): .*");
    private static final Pattern ROW = Pattern.compile("(?m)^\\| `(\\w+)\\(([^)]*)\\)` \\| [^|]+ \\| [^|]+ \\|$");

    private static final Expect e = new Expect();

    public static void main(String[] args) throws IllegalAccessException, IOException {
        String readme = Files.readString(Path.of("README.md"));
        example(readme);
        calls(readme);
        constants(readme);
        e.end();
    }

    private static void example(String readme) {
        e.part("example");
        int begins = readme.indexOf("```java\n") + "```java\n".length();
        String[] lines = readme.substring(begins, readme.indexOf("```", begins)).split("\n");
        e.due("it begins with " + lines[0], 1, lines[0].equals("YearTags room = new YearTags();") ? 1 : 0);
        YearTags room = new YearTags();
        int tag = 0;
        for (int i = 1; i < lines.length; i++) {
            Matcher m = LINE.matcher(lines[i]);
            e.that("a call with its answer: " + lines[i], m.matches());
            if (m.matches()) {
                int got = Call.of(m.group(2), numbers(m.group(3), tag)).on(room);
                e.due(lines[i], Integer.parseInt(m.group(4)), got);
                tag = "tag".equals(m.group(1)) ? got : tag;
            }
        }
    }

    private static int[] numbers(String list, int tag) {
        String[] parts = list.isBlank() ? new String[0] : list.split(",");
        int[] numbers = new int[parts.length];
        for (int i = 0; i < parts.length; i++) {
            String part = parts[i].strip();
            numbers[i] = part.equals("tag") ? tag : Integer.parseInt(part);
        }
        return numbers;
    }

    private static void calls(String readme) {
        e.part("calls");
        int rows = 0;
        for (Matcher m = ROW.matcher(readme); m.find();) {
            rows++;
        }
        int methods = 0;
        for (Method method : YearTags.class.getDeclaredMethods()) {
            if (Modifier.isPublic(method.getModifiers())) {
                methods++;
                e.due("rows of " + method.getName(), 1, rowsOf(readme, method));
            }
        }
        e.due("rows of calls", methods, rows);
    }

    private static int rowsOf(String readme, Method method) {
        int rows = 0;
        for (Matcher m = ROW.matcher(readme); m.find();) {
            int arguments = m.group(2).isBlank() ? 0 : m.group(2).split(",").length;
            if (m.group(1).equals(method.getName()) && arguments == method.getParameterCount()) {
                rows++;
            }
        }
        return rows;
    }

    private static void constants(String readme) throws IllegalAccessException {
        e.part("constants");
        for (Field field : YearTags.class.getFields()) {
            e.that(field.getName() + " has a row", readme.contains("| `" + field.getName() + "` | " + field.getInt(null) + " | "));
        }
    }
}
