import java.lang.reflect.Method;
import java.lang.reflect.Modifier;
import java.nio.file.Files;
import java.nio.file.Path;
import java.util.ArrayList;
import java.util.List;
import java.util.regex.Matcher;
import java.util.regex.Pattern;

/** Makes the calls of README.md's examples: the answers written behind them must be those that come. */
public final class ReadmeTest {
    private static final Pattern CALL = Pattern.compile("\\bx\\.(\\w+)\\(([^)]*)\\);");
    private static final Pattern TYPED = Pattern.compile("^for \\(char c : \"(.*)\"\\.toCharArray\\(\\)\\) \\{ x\\.type\\(c\\); \\}$");
    private static final Pattern ANSWERS = Pattern.compile("^ *(-?\\d+(?: -?\\d+)*)(?:: .*)?$");

    private static PoleRecords x = null;

    public static void main(String[] args) throws Exception {
        List<String> lines = Files.readAllLines(Path.of("README.md"));
        boolean isExample = false;
        int examples = 0;
        for (String line : lines) {
            if (line.startsWith("```")) {
                isExample = line.equals("```java");
                examples += isExample ? 1 : 0;
                x = null;
            } else if (isExample) {
                exampleLine(line);
            }
        }
        Due.isTrue("README.md has an example", examples > 0);
        namesEachCall(String.join("\n", lines));
        Due.end();
    }

    private static void exampleLine(String line) throws Exception {
        int comment = line.indexOf("//");
        String code = (comment < 0 ? line : line.substring(0, comment)).trim();
        if (code.equals("PoleRecords x = new PoleRecords();")) {
            x = new PoleRecords();
            return;
        }
        Matcher told = ANSWERS.matcher(comment < 0 ? "" : line.substring(comment + 2));
        Due.isTrue("answers stand behind '" + line + "'", told.matches());
        Due.isTrue("an object stands ahead of '" + line + "'", x != null);
        if (told.matches() && x != null) {
            compare(line, answersOf(code), told.group(1).split(" "));
        }
    }

    private static void compare(String line, List<Long> got, String[] want) {
        Due.is("as many answers as calls in '" + line + "'", want.length, got.size());
        for (int k = 0; k < got.size() && k < want.length; k++) {
            Due.is("call " + k + " of '" + line + "'", got.get(k), Long.parseLong(want[k]));
        }
    }

    private static List<Long> answersOf(String code) throws Exception {
        List<Long> answers = new ArrayList<>();
        Matcher typed = TYPED.matcher(code);
        if (typed.matches()) {
            long last = 0;
            for (char c : typed.group(1).toCharArray()) {
                last = x.type(c);
            }
            answers.add(last);
            return answers;
        }
        Due.is("nothing but calls in '" + code + "'", CALL.matcher(code).replaceAll("").isBlank() ? 1 : 0, 1);
        Matcher call = CALL.matcher(code);
        while (call.find()) {
            answers.add(answerOf(call.group(1), call.group(2)));
        }
        return answers;
    }

    private static long answerOf(String name, String numbers) throws Exception {
        String[] parts = numbers.isBlank() ? new String[0] : numbers.split(", *");
        Object[] arguments = new Object[parts.length];
        Class<?>[] types = new Class<?>[parts.length];
        for (int k = 0; k < parts.length; k++) {
            arguments[k] = Integer.valueOf(parts[k]);
            types[k] = int.class;
        }
        return ((Number) PoleRecords.class.getMethod(name, types).invoke(x, arguments)).longValue();
    }

    private static void namesEachCall(String readme) {
        for (Method method : PoleRecords.class.getDeclaredMethods()) {
            if (Modifier.isPublic(method.getModifiers())) {
                Due.isTrue("README.md names " + method.getName(), readme.contains("`" + method.getName() + "`"));
            }
        }
    }
}
