import java.io.IOException;
import java.nio.file.Files;
import java.nio.file.Path;
import java.util.List;
import java.util.regex.Matcher;
import java.util.regex.Pattern;

/** The rules of ../shared/LANGUAGE.md that can be seen in the text of the class; its file is the argument. */
public final class LanguageTest {
    private static final String[] NEVER = {"throw", "throws", "try", "catch", "finally", "synchronized", "assert", "import",
        "package", "volatile", "transient", "native", "new Thread", "equals", "hashCode", "toString", "Object", "var",
        "yield", "Integer\\.valueOf", "\\w+Exact", "->", "::", "\" \\+", "\\+ \"", "\"\"\"", "@"};
    private static final Pattern METHOD = Pattern.compile("^ {4,8}[a-zA-Z][\\w\\[\\]<> ]* (\\w+)\\(([^)]*)\\) \\{$");
    /** What is asked of a class by its name, and what of the library the class needs (rule 4). */
    private static final Pattern OF_A_CLASS = Pattern.compile("\\b([A-Z]\\w*[a-z]\\w*)\\.(\\w+)");
    private static final List<String> LIBRARY = List.of("Math.min", "Math.max", "Math.abs", "Integer.bitCount", "System.arraycopy");
    private static int wrong = 0;

    public static void main(String[] args) throws IOException {
        Path file = Path.of(args.length > 0 ? args[0] : "src/main/java/BalloonTown.java");
        List<String> lines = Files.readAllLines(file);
        int depth = 0, classes = 0, began = -1, methodDepth = 0;
        boolean constructs = false;
        for (int i = 0; i < lines.size(); i++) {
            String line = lines.get(i);
            String code = withoutComment(line);
            is(i, "a sign that isn't 1 to 127", line.chars().allMatch(c -> c > 0 && c < 128));
            for (String word : NEVER) {
                boolean isWord = Character.isLetter(word.charAt(0));
                is(i, word, !Pattern.compile(isWord ? "\\b" + word + "\\b" : word).matcher(code).find());
            }
            Matcher asked = OF_A_CLASS.matcher(code);
            while (asked.find()) {
                is(i, "not of the library: " + asked.group(), LIBRARY.contains(asked.group()));
            }
            if (code.contains(" class ")) {
                classes++;
            }
            is(i, "an object made by a call", began < 0 || constructs || !code.contains("new "));
            is(i, "a static field that isn't final", !code.contains(" static ") || code.contains("(")
                || code.contains(" class ") || code.contains(" final "));
            is(i, "a loop without a bound", !code.matches(".*(for \\(;;|for \\([^;]*;\\s*;|while \\(true).*"));
            Matcher method = METHOD.matcher(code);
            if (method.matches()) {
                began = i;
                methodDepth = depth;
                constructs = method.group(1).equals("BalloonTown");
                is(i, "more than seven parameters", method.group(2).split(",").length <= 7);
            }
            depth += count(code, '{') - count(code, '}');
            if (began >= 0 && depth == methodDepth) {
                is(i, "a method of more than sixty lines", i - began < 60);
                began = -1;
            }
        }
        is(lines.size(), "twelve classes at most", classes <= 12);
        System.out.println(wrong == 0 ? "the language is as due" : wrong + " things are not as due");
        if (wrong != 0) {
            System.exit(1);
        }
    }

    private static String withoutComment(String line) {
        String code = line.strip();
        if (code.startsWith("/*") || code.startsWith("*")) {
            return "";
        }
        int at = line.indexOf("//");
        return at < 0 ? line : line.substring(0, at);
    }

    private static int count(String code, char sign) {
        return (int) code.chars().filter(c -> c == sign).count();
    }

    private static void is(int line, String what, boolean right) {
        if (!right) {
            wrong++;
            System.out.println("line " + (line + 1) + ": " + what);
        }
    }
}
