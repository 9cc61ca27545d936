import java.io.IOException;
import java.nio.file.Files;
import java.nio.file.Path;
import java.util.regex.Matcher;
import java.util.regex.Pattern;

/** The calls in README.md, all on one object, have the answers that stand behind them. */
public final class ReadmeTest {
    private static final Pattern ANSWERED = Pattern.compile("broker\\.(\\w+)\\((.*)\\); +// (.+)");
    private static final Pattern COMMANDS = Pattern.compile("run\\(broker, (\".*\")\\); +// (.+)");

    public static void main(String[] args) throws IOException {
        String page = Files.readString(Path.of("README.md"));
        StringBuilder script = new StringBuilder();
        page.lines().forEach(line -> script.append(scriptLine(line)));
        Script.test("README.md", script.toString());
        Check.test("README.md has calls", () -> Check.due(28L, () -> script.toString().lines().count()));
        Check.finish();
    }

    private static String scriptLine(String line) {
        Matcher commands = COMMANDS.matcher(line);
        if (commands.matches()) {
            return "execute " + commands.group(1) + " -> " + commands.group(2) + "\n";
        }
        Matcher call = ANSWERED.matcher(line);
        if (!call.matches()) {
            return "";
        }
        String arguments = call.group(2).isEmpty() ? "" : " " + call.group(2).replace(",", "");
        return call.group(1) + arguments + " -> " + call.group(3) + "\n";
    }
}
