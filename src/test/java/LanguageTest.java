import java.io.IOException;
import java.nio.file.Files;
import java.nio.file.Path;
import java.util.List;
import java.util.regex.Matcher;
import java.util.regex.Pattern;

/** What of LANGUAGE.md can be seen in the text of the class. */
public final class LanguageTest {
    private static final String[] FORBIDDEN = {
        "->", "::", "\\btry\\b", "\\bcatch\\b", "\\bfinally\\b", "\\bsynchronized\\b", "\\bassert\\b", "\\bdouble\\b",
        "\\bfloat\\b", "\\bSystem\\.(?!arraycopy)", "\\bMap\\b", "\\bSet\\b", "\\bRandom\\b", "\\bThread\\b", "Exact\\(",
        "\\.hashCode\\(", "\\.toString\\(", "\\.equals\\(", "^package\\b", "\\bprotected\\b", "static \\{",
        "\\b(Integer|Long)\\.(MAX|MIN)_VALUE",
    };

    public static void main(String[] args) throws IOException {
        Checks checks = new Checks("LanguageTest");
        List<String> lines = Files.readAllLines(Path.of("src/main/java/TownTwins.java"));
        for (int i = 0; i < lines.size(); i++) {
            String code = lines.get(i).replaceAll("^\\s*(/?\\*.*|//.*)$", "");
            for (String forbidden : FORBIDDEN) {
                checks.due("line " + (i + 1) + " has " + forbidden, Pattern.compile(forbidden).matcher(code).find(), false);
            }
            checks.due("line " + (i + 1) + " is short", lines.get(i).length() <= 120, true);
            checks.due("line " + (i + 1) + " is plain", lines.get(i).chars().allMatch(c -> c >= 32 && c < 127), true);
            Matcher imported = Pattern.compile("^import (.*);").matcher(code);
            if (imported.find()) {
                checks.due("import of " + imported.group(1),
                        List.of("java.util.Arrays", "java.util.NoSuchElementException").contains(imported.group(1)), true);
            }
        }
        lengths(checks, lines);
        checks.end();
    }

    private static void lengths(Checks checks, List<String> lines) {
        Pattern header = Pattern.compile("^( +)[a-zA-Z].*\\) (throws .*)?\\{$");
        Pattern statement = Pattern.compile("^ +(if|for|while|switch|else)\\b.*");
        for (int i = 0; i < lines.size(); i++) {
            Matcher method = header.matcher(lines.get(i));
            if (method.matches() && !statement.matcher(lines.get(i)).matches()) {
                int end = i;
                while (end < lines.size() - 1 && !lines.get(end).equals(method.group(1) + "}")) {
                    end++;
                }
                checks.due("method of line " + (i + 1) + " is short", end - i <= 60, true);
            }
        }
    }
}
