import java.io.IOException;
import java.lang.reflect.Method;
import java.lang.reflect.Modifier;
import java.nio.file.Files;
import java.nio.file.Path;
import java.util.List;
import java.util.Set;
import java.util.TreeSet;
import java.util.regex.Matcher;
import java.util.regex.Pattern;

/**
 * Writes the Java rows of README.md as a test, so that the page is compiled and run as it stands there.
 * A row with a comment tells the answer that is due: a literal, or throws and a name, then a colon and words.
 */
public final class ReadmeRows {
    private static final String LITERAL = "'.'|\"[^\"]*\"|-?\\d+(?:\\.\\d+f?)?|true|false";
    private static final Pattern ROW =
        Pattern.compile("(\\S.*);\\s+// (?:throws (\\w+)|(" + LITERAL + "))(?:: .+)?");
    private static final Pattern CALL = Pattern.compile("score\\.(\\w+)\\(");

    private static final Set<String> shown = new TreeSet<>();
    private static int wrong = 0;

    private ReadmeRows() {
    }

    public static void main(String[] args) throws IOException {
        List<String> lines = Files.readAllLines(Path.of(args[0]));
        StringBuilder test = new StringBuilder();
        test.append("public final class ReadmeTest {\n    public static void main(String[] args) {\n");
        boolean isCode = false;
        for (int i = 0; i < lines.size(); i++) {
            String line = lines.get(i);
            if (line.startsWith("```")) {
                isCode = line.equals("```java");
            } else if (isCode && !line.isBlank()) {
                test.append("        ").append(tested(line, i + 1)).append('\n');
            }
        }
        test.append("        Due.end();\n    }\n}\n");
        checkAllShown();
        Files.writeString(Path.of(args[1]), test);
        if (wrong > 0) {
            System.exit(1);
        }
    }

    private static String tested(String line, int number) {
        Matcher calls = CALL.matcher(line);
        while (calls.find()) {
            shown.add(calls.group(1));
        }
        Matcher row = ROW.matcher(line);
        if (row.matches()) {
            String call = row.group(1);
            String due = row.group(2) != null ? "\"throws." + row.group(2) + "\"" : row.group(3);
            String what = "README.md row " + number + ": " + call.replace("\\", "\\\\").replace("\"", "\\\"");
            return "Due.is(\"" + what + "\", Due.outcome(() -> " + call + "), " + due + ");";
        }
        if (line.startsWith("score.") || line.contains("//")) {
            complain("README.md row " + number + " tells no answer: " + line);
        }
        return line;
    }

    private static void checkAllShown() {
        for (Method method : TinRoofScore.class.getDeclaredMethods()) {
            if (Modifier.isPublic(method.getModifiers()) && !shown.contains(method.getName())) {
                complain("README.md shows no call of " + method.getName());
            }
        }
    }

    private static void complain(String what) {
        wrong++;
        System.out.println(what);
    }
}
