import java.lang.reflect.Method;
import java.lang.reflect.Modifier;
import java.nio.file.Files;
import java.nio.file.Path;
import java.util.List;
import java.util.Set;
import java.util.TreeSet;
import java.util.regex.Matcher;
import java.util.regex.Pattern;

/** README.md tells the truth: its example answers as it says, and its table has every call of the face. */
public final class ReadmeTest {
    private static final Path README = Path.of("README.md");
    private static final Pattern EXAMPLE = Pattern.compile("x\\.(\\w+\\(.*\\)); *// ([^:]+)(:.*)?");
    private static final Pattern CALL_OF_THE_TABLE = Pattern.compile("`(\\w+)`");

    public static void main(String[] args) throws Exception {
        List<String> lines = Files.readAllLines(README);
        theExampleAnswersAsItSays(lines);
        theTableHasEveryCall(lines);
        Check.end("ReadmeTest");
    }

    private static void theExampleAnswersAsItSays(List<String> lines) {
        Script script = new Script("README");
        int played = 0;
        for (String line : lines) {
            Matcher example = EXAMPLE.matcher(line);
            if (example.matches()) {
                script.play(example.group(1) + " = " + example.group(2));
                played++;
            } else {
                Check.same("README: a call without its answer: " + line, "false",
                        String.valueOf(line.startsWith("x.")));
            }
        }
        Check.same("README: it has an example", "true", String.valueOf(played > 0));
    }

    private static void theTableHasEveryCall(List<String> lines) {
        Set<String> want = new TreeSet<>();
        for (Method method : Pirateindex.class.getDeclaredMethods()) {
            if (Modifier.isPublic(method.getModifiers())) {
                want.add(method.getName());
            }
        }
        Set<String> got = new TreeSet<>();
        for (String line : lines) {
            Matcher call = CALL_OF_THE_TABLE.matcher(line.startsWith("|") ? line : "");
            while (call.find()) {
                Check.same("README: the table has it once: " + call.group(1), "true",
                        String.valueOf(got.add(call.group(1))));
            }
        }
        Check.same("README: the calls of the table", want.toString(), got.toString());
    }
}
