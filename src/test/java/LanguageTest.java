import java.io.IOException;
import java.nio.file.Files;
import java.nio.file.Path;
import java.util.HashMap;
import java.util.List;
import java.util.Map;
import java.util.regex.Matcher;
import java.util.regex.Pattern;

/** What of LANGUAGE.md can be seen from the program's text. The text's path is the argument. */
public final class LanguageTest {
    private static final Due due = new Due("LanguageTest");
    private static final List<String> NEVER = List.of("throw", "throws", "try", "catch", "finally", "synchronized", "assert", "import",
        "package", "protected", "volatile", "native", "instanceof", "System", "Thread", "var", "yield", "strictfp");

    public static void main(String[] args) throws IOException {
        String whole = Files.readString(Path.of(args[0]));
        signs(whole);
        String code = withoutRemarks(whole);
        words(code);
        arrays(code);
        methods(code);
        names(code);
        due.end();
    }

    private static void signs(String whole) {
        due.is("signs beyond 126", whole.chars().filter(sign -> sign > 126).count(), 0);
        due.is("signs below 32 but for ends of lines", whole.chars().filter(sign -> sign < 32 && sign != '\n').count(), 0);
    }

    private static String withoutRemarks(String whole) {
        return whole.replaceAll("(?s)/\\*.*?\\*/", " ").replaceAll("//[^\n]*", " ");
    }

    private static int count(String pattern, String code) {
        Matcher matcher = Pattern.compile(pattern).matcher(code);
        int count = 0;
        while (matcher.find()) {
            count++;
        }
        return count;
    }

    private static void words(String code) {
        for (String word : NEVER) {
            due.is("the word " + word, count("\\b" + word + "\\b", code), 0);
        }
        due.is("lambdas and arrows", count("->|::", code), 0);
        due.is("texts", count("\"", code), 0);
        due.is("static blocks", count("static\\s*\\{", code), 0);
        due.is("static fields that are not final", count("static\\s+(?!final)[\\w\\[\\]]+\\s+\\w+\\s*[=;]", code), 0);
        due.is("one public class", count("public\\s+final\\s+class", code), 1);
    }

    /** Elements are reached in the guarded functions alone, and rows are made in fields and constructors alone. */
    private static void arrays(String code) {
        // In at, put, fill and the two of copy; the letter that is read; the states of Past, made and reached.
        due.is("elements of rows", count("\\w\\[\\w+\\]", code.replaceAll("new \\w+\\[\\w+\\]", "")), 8);
        for (String line : code.split("\n")) {
            if (line.contains("new ")) {
                boolean field = line.matches("\\s*private (static )?final .*");
                boolean made = line.matches("\\s+\\w+(\\[i\\])? = new \\w+\\(\\);");
                due.is("made in a constructor: " + line.trim(), field || made ? 1 : 0, 1);
            }
        }
    }

    private static void methods(String code) {
        Matcher head = Pattern.compile("(?m)^( +)(?:public|private) (?:static )?[\\w\\[\\]]+ (\\w+)\\(([^)]*)\\) \\{$").matcher(code);
        Map<String, String> bodies = new HashMap<>();
        while (head.find()) {
            int end = code.indexOf("\n" + head.group(1) + "}", head.end());
            int lines = code.substring(head.start(), end).split("\n").length + 1;
            bodies.merge(head.group(2), code.substring(head.end(), end), String::concat);
            due.is(head.group(2) + " has " + lines + " lines", lines <= 60 ? 1 : 0, 1);
            due.is(head.group(2) + " takes " + head.group(3), head.group(3).split(",").length <= 7 ? 1 : 0, 1);
        }
        due.is("methods were found", bodies.size() > 60 ? 1 : 0, 1);
        for (String name : bodies.keySet()) {
            int depth = depth(name, bodies, 0);
            due.is(name + " opens " + depth + " calls", depth <= 8 ? 1 : 0, 1);
        }
    }

    /** How many calls of the program's own stand open at once, at most; past 30 it is taken for a recursion. */
    private static int depth(String name, Map<String, String> bodies, int above) {
        int deepest = 0;
        Matcher call = Pattern.compile("\\b(\\w+)\\(").matcher(bodies.get(name));
        while (call.find() && above < 30) {
            if (bodies.containsKey(call.group(1))) {
                deepest = Math.max(deepest, depth(call.group(1), bodies, above + 1));
            }
        }
        return deepest + 1;
    }

    private static void names(String code) {
        Matcher face = Pattern.compile("public int (\\w+)\\(").matcher(code);
        while (face.find()) {
            due.is("private methods named " + face.group(1), count("private (static )?[\\w\\[\\]]+ " + face.group(1) + "\\(", code), 0);
        }
    }
}
