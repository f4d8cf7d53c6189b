import java.lang.reflect.Method;
import java.lang.reflect.Modifier;
import java.nio.file.Files;
import java.nio.file.Path;
import java.util.ArrayList;
import java.util.List;
import java.util.regex.Matcher;
import java.util.regex.Pattern;

/** README.md's examples answer what it says, and it names every call. */
public final class ReadmeTest {
    private static final Pattern BLOCK = Pattern.compile("(?s)```java\n(.*?)```");
    private static final Pattern TEXT = Pattern.compile("for \\(char c : \"([^\"]*)\"\\.toCharArray\\(\\)\\) \\{");
    private static final Pattern CALL = Pattern.compile("x\\.(\\w+)\\(([-\\d, ]*)\\); +// (-?\\d+)\\b.*");
    private static final List<String> OTHER_LINES = List.of("    x.feed(c);", "}");

    public static void main(String[] args) throws Exception {
        String readme = Files.readString(Path.of("README.md"));
        Matcher block = BLOCK.matcher(readme);
        int blocks = 0;
        while (block.find()) {
            blocks++;
            example(block.group(1));
        }
        Due.that("examples are found", blocks >= 3);
        for (Method m : CellsInRow.class.getDeclaredMethods()) {
            if (Modifier.isPublic(m.getModifiers())) {
                Due.that(m.getName() + " is named", Pattern.compile("`" + m.getName() + "\\(").matcher(readme).find());
            }
        }
        Due.that("how to run the tests is said", readme.contains("\n.ci/run\n"));
        Due.finish();
    }

    private static void example(String block) throws Exception {
        CellsInRow x = null;
        for (String line : block.split("\n")) {
            Matcher text = TEXT.matcher(line);
            Matcher call = CALL.matcher(line);
            if (line.equals("CellsInRow x = new CellsInRow();")) {
                x = new CellsInRow();
            } else if (text.matches()) {
                for (char c : text.group(1).toCharArray()) {
                    x.feed(c);
                }
            } else if (call.matches()) {
                Due.is("README: " + line, answer(x, call.group(1), call.group(2)), Long.parseLong(call.group(3)));
            } else {
                Due.that("README: a line that is no call: " + line, OTHER_LINES.contains(line));
            }
        }
    }

    private static long answer(CellsInRow x, String name, String numbers) throws Exception {
        List<Object> given = new ArrayList<>();
        for (String number : numbers.split(",")) {
            if (!number.isBlank()) {
                given.add(Integer.parseInt(number.trim()));
            }
        }
        Class<?>[] types = new Class<?>[given.size()];
        java.util.Arrays.fill(types, int.class);
        Object answered = CellsInRow.class.getMethod(name, types).invoke(x, given.toArray());
        return ((Number) answered).longValue();
    }
}
