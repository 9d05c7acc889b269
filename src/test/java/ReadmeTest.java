import java.io.IOException;
import java.nio.file.Files;
import java.nio.file.Path;
import java.util.regex.Matcher;
import java.util.regex.Pattern;

/** The examples of README.md: each line "town.call(..);  // = answer" answers as it stands there. */
public final class ReadmeTest {
    private static final Pattern CALL = Pattern.compile("^town\\.(\\w+)\\(([^)]*)\\); +// = (-?\\d+)(:.*)?$");
    private static final Check check = new Check();

    public static void main(String[] args) throws IOException {
        BalloonTown town = null;
        int tried = 0;
        for (String line : Files.readAllLines(Path.of("README.md"))) {
            check.part(line);
            if (line.startsWith("BalloonTown town = ")) {
                town = new BalloonTown();
            } else if (line.startsWith("town.")) {
                Matcher call = CALL.matcher(line);
                boolean told = town != null && call.matches();
                check.due("is a call with its answer (1)", told ? 1 : 0, 1);
                if (told) {
                    tried++;
                    String words = call.group(1) + " " + call.group(2).replace("L", "").replace(",", "");
                    check.due("it", Told.answer(town, words.strip()), Integer.parseInt(call.group(3)));
                }
            }
        }
        check.part("README.md");
        check.due("has examples (1)", tried > 0 ? 1 : 0, 1);
        check.end();
    }
}
