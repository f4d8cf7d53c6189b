import java.nio.file.Files;
import java.nio.file.Path;
import java.util.List;
import java.util.regex.Matcher;
import java.util.regex.Pattern;

/** The rules of LANGUAGE.md that can be seen in the text of the class. */
public final class LanguageTest {
    private static final List<String> FORBIDDEN = List.of(
        "\\b(throw|throws|try|catch|finally|synchronized|assert|protected|package|native|volatile|import)\\b",
        "->", "::", "Exact\\b", "static\\s*\\{", "\\bObject\\b", "\\bException\\b", "\\.(hashCode|toString|equals)\\(",
        "\\bfor\\s*\\(\\s*;\\s*;", "while\\s*\\(\\s*true", "\\bMath\\.(random|sqrt|pow)", "System\\.(?!arraycopy)");

    public static void main(String[] args) throws Exception {
        String all = Files.readString(Path.of(args.length > 0 ? args[0] : "src/main/java/CellsInRow.java"));
        String code = all.replaceAll("(?s)/\\*.*?\\*/", "").replaceAll("//[^\n]*", "")
            .replaceAll("\"[^\"\n]*\"", "\"\"");
        for (String pattern : FORBIDDEN) {
            Matcher m = Pattern.compile(pattern).matcher(code);
            Due.that("rule: " + pattern + " is not found", !m.find());
        }
        Due.that("signs 1 to 126 alone", all.chars().allMatch(c -> c == '\n' || c >= 32 && c < 127));
        Due.that("at most twelve classes", Pattern.compile("\\bclass\\s+\\w+").matcher(code).results().count() <= 12);
        Due.that("no class inside is other than private, static", Pattern.compile("\\bclass\\s+\\w+").matcher(code).results().count()
            == 1 + Pattern.compile("private static final class\\s+\\w+").matcher(code).results().count());
        methods(code);
        fields();
        Due.finish();
    }

    private static void methods(String code) {
        Matcher m = Pattern.compile("(?m)^( +)(?:[\\w\\[\\]]+ )+(\\w+)\\(([^)]*)\\) \\{$").matcher(code);
        int found = 0;
        while (m.find()) {
            found++;
            int end = code.indexOf("\n" + m.group(1) + "}\n", m.end());
            long lines = code.substring(m.start(), end).chars().filter(c -> c == '\n').count();
            Due.that(m.group(2) + " is short", lines <= 60);
            Due.that(m.group(2) + " has at most seven parameters", m.group(3).split(",").length <= 7);
        }
        Due.that("methods are found", found > 60);
    }

    private static void fields() {
        for (Class<?> c : CellsInRow.class.getDeclaredClasses()) {
            Due.that(c + " has some twenty fields at most", java.util.Arrays.stream(c.getDeclaredFields())
                .filter(f -> !java.lang.reflect.Modifier.isStatic(f.getModifiers())).count() <= 20);
        }
        for (java.lang.reflect.Field f : CellsInRow.class.getDeclaredFields()) {
            int is = f.getModifiers();
            Due.that(f + " is final, if static", !java.lang.reflect.Modifier.isStatic(is) || java.lang.reflect.Modifier.isFinal(is));
        }
    }
}
