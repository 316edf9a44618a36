import java.io.IOException;
import java.nio.file.Files;
import java.nio.file.Path;
import java.util.List;
import java.util.regex.Matcher;
import java.util.regex.Pattern;

/** What can be seen in the lines of the program of the rules of LANGUAGE.md. Run from the project's folder. */
public final class SourceTest {
    private static final String[] FORBIDDEN = {
        "\\btry\\b", "\\bcatch\\b", "\\bfinally\\b", "\\bsynchronized\\b", "\\bassert\\b", "\\bpackage\\b",
        "->", "::", "\\bObject\\b", "\\brecord\\b", "\\binstanceof\\b", "\\bstatic \\{", "\\bLong\\b",
        "\\bException\\b", "\\bThrowable\\b", "\\bRandom\\b", "\\bThread\\b", "Exact\\(", "\\bvar\\b",
        "System\\.(?!arraycopy)", "Arrays\\.(?!fill)", "Integer\\.(?!numberOfTrailingZeros)",
        "Math\\.(?!min|max)", "\" ?\\+", "\\+ ?\"", "\\bequals\\b", "\\bhashCode\\b", "\\btoString\\b",
    };
    private static final String[] NEW_MAY_STAND = {
        "private final \\w+(\\[\\])? \\w+ = new \\w+(\\(\\)|\\[[\\w *+<]+\\]);",
        "throw new (IllegalStateException|IllegalArgumentException|IndexOutOfBoundsException)\\(\"[a-z0-9 ]+\"\\);",
    };

    public static void main(String[] args) throws IOException {
        List<String> lines = Files.readAllLines(Path.of("src/main/java/BeltRounds.java"));
        for (int i = 0; i < lines.size(); i++) {
            String line = lines.get(i);
            String where = "line " + (i + 1) + ": " + line.trim();
            Check.holds(where + " is short", line.length() <= 120);
            Check.holds(where + " has plain signs", line.chars().allMatch(c -> c >= 32 && c < 127));
            String code = line.replaceAll("//.*", "").replaceAll("^\\s*/?\\*.*", "").trim();
            Check.holds(where + " imports what is listed",
                    !code.startsWith("import") || code.equals("import java.util.Arrays;"));
            noneOf(FORBIDDEN, code.replaceAll("\"[^\"]*\"", "\"\""), where);
            if (Pattern.compile("\\bnew\\b").matcher(code).find()) {
                Check.holds(where + " makes an object only once, or to throw it", matchesOne(NEW_MAY_STAND, code));
            }
        }
        methods(lines);
        Check.end("SourceTest");
    }

    private static void noneOf(String[] patterns, String code, String where) {
        for (String pattern : patterns) {
            Check.holds(where + " has no " + pattern, !Pattern.compile(pattern).matcher(code).find());
        }
    }

    private static boolean matchesOne(String[] patterns, String code) {
        for (String pattern : patterns) {
            if (code.matches(pattern)) {
                return true;
            }
        }
        return false;
    }

    /** Methods begin with a line that ends in ") {" and end with a brace that stands as far in. */
    private static void methods(List<String> lines) {
        Pattern head = Pattern.compile("^( {4}| {8})(?:public |private |static )*[\\w<>\\[\\]]+ (\\w+)\\((.*)\\).*\\{$");
        for (int i = 0; i < lines.size(); i++) {
            Matcher m = head.matcher(lines.get(i));
            if (m.matches()) {
                int end = i;
                while (!lines.get(end).equals(m.group(1) + "}")) {
                    end++;
                }
                Check.holds(m.group(2) + " has at most sixty lines", end - i < 60);
                Check.holds(m.group(2) + " has at most seven parameters", m.group(3).split(",").length <= 7);
            }
        }
    }
}
