import java.nio.file.Files;
import java.nio.file.Path;
import java.util.ArrayList;
import java.util.List;
import java.util.regex.Matcher;
import java.util.regex.Pattern;

/** The rules of LANGUAGE.md that a look at the program's text can hold. */
public final class LanguageTest {
    private static final Path PROGRAM = Path.of("src/main/java/PoleRecords.java");
    private static final String[] RULED_OUT = {"\\b(throw|throws|try|catch|synchronized|assert)\\b", "->", "::",
        "\\bpackage\\b", "\\bInteger\\.[A-Z]", "\\b(hashCode|toString|random|nanoTime|currentTimeMillis)\\b",
        "\\w+Exact\\b", "\\bstatic \\{", "\\bprotected\\b", "\\[\\]\\[\\]\\[\\]"};
    private static final int LONGEST_METHOD = 60;

    public static void main(String[] args) throws Exception {
        List<String> lines = codeLines();
        for (String rule : RULED_OUT) {
            Pattern pattern = Pattern.compile(rule);
            for (int k = 0; k < lines.size(); k++) {
                Due.is("line " + (k + 1) + " has " + rule, pattern.matcher(lines.get(k)).find() ? 1 : 0, 0);
            }
        }
        imports(lines);
        methodLengths(lines);
        classes(lines);
        Due.end();
    }

    private static List<String> codeLines() throws Exception {
        List<String> lines = new ArrayList<>();
        for (String line : Files.readAllLines(PROGRAM)) {
            String start = line.trim();
            boolean isComment = start.startsWith("//") || start.startsWith("/*") || start.startsWith("*");
            lines.add(isComment ? "" : line);
        }
        return lines;
    }

    private static void imports(List<String> lines) {
        for (String line : lines) {
            if (line.startsWith("import")) {
                Due.is(line, line.equals("import java.util.Arrays;") ? 1 : 0, 1);
            }
        }
    }

    private static void methodLengths(List<String> lines) {
        Pattern head = Pattern.compile("^( {4}| {8})(?:\\w+(?:\\[\\])* )+(\\w+)\\((.*)\\) \\{$");
        for (int k = 0; k < lines.size(); k++) {
            Matcher method = head.matcher(lines.get(k));
            if (method.find()) {
                int end = k;
                while (end < lines.size() && !lines.get(end).equals(method.group(1) + "}")) {
                    end++;
                }
                Due.is(method.group(2) + " is too long", end - k > LONGEST_METHOD ? 1 : 0, 0);
                Due.is(method.group(2) + " has too many parameters", method.group(3).split(",").length > 7 ? 1 : 0, 0);
            }
        }
    }

    private static void classes(List<String> lines) {
        long count = lines.stream().filter(line -> line.matches(".*\\bclass \\w+.*")).count();
        long nestedRight = lines.stream().filter(line -> line.matches("    private static final class \\w+ \\{")).count();
        Due.is("classes inside are private and static", nestedRight, count - 1);
        Due.is("classes are some twelve at most", count <= 12 ? 1 : 0, 1);
    }
}
