import java.io.IOException;
import java.lang.reflect.Method;
import java.lang.reflect.Modifier;
import java.nio.file.Files;
import java.nio.file.Path;
import java.util.List;
import java.util.Set;
import java.util.TreeSet;
import java.util.regex.Matcher;
import java.util.regex.Pattern;

/** The calls that README.md shows answer what stands behind them, and every method is shown. */
public final class ReadmeTest {
    private static final Pattern MADE =
            Pattern.compile("PutWall wall = new PutWall\\((\\d+)\\);.*");
    private static final Pattern CALL =
            Pattern.compile("wall\\.((\\w+)\\(.*?\\));\\s+// ([^:]+)(: .*)?");

    private static final Check CHECK = new Check();

    public static void main(String[] args) throws IOException {
        CHECK.topic("README.md");
        List<String> lines = Files.readAllLines(Path.of("README.md"));
        Set<String> shown = shown(lines);
        for (Method method : PutWall.class.getDeclaredMethods()) {
            if (Modifier.isPublic(method.getModifiers()) && !shown.contains(method.getName())) {
                CHECK.fail(method.getName() + " is not shown");
            }
        }
        CHECK.end();
    }

    private static Set<String> shown(List<String> lines) {
        Set<String> shown = new TreeSet<>();
        Run run = null;
        for (String line : lines) {
            Matcher made = MADE.matcher(line);
            Matcher call = CALL.matcher(line);
            if (made.matches()) {
                run = new Run(Integer.parseInt(made.group(1)));
            } else if (run != null && call.matches()) {
                Run wall = run;
                CHECK.due(call.group(3), call.group(1), () -> wall.answer(call.group(1)));
                shown.add(call.group(2));
            } else if (line.startsWith("wall.")) {
                CHECK.fail("a line that is not run: " + line);
            }
        }
        return shown;
    }
}
