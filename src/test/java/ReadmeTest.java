import java.nio.charset.StandardCharsets;
import java.nio.file.Files;
import java.nio.file.Path;
import java.util.Set;
import java.util.TreeSet;
import java.util.regex.Matcher;
import java.util.regex.Pattern;

/** The answers that README.md tells beside its calls, and that it shows every call of the face. */
public final class ReadmeTest {
    private static final Pattern TEXT = Pattern.compile("String text = \"([^\"]*)\";");
    private static final Pattern CALL = Pattern.compile("(?m)^x\\.((\\w+)\\([^)]*\\)); +// (-?\\d+):");

    public static void main(String[] args) throws Exception {
        String readme = new String(Files.readAllBytes(Path.of("README.md")), StandardCharsets.UTF_8);
        Stage.says("README.md", "Every call once, with what it answers");
        Matcher text = TEXT.matcher(readme);
        if (!text.find()) {
            throw new IllegalStateException("README.md tells no text");
        }
        Stage x = Stage.empty().put(text.group(1));
        Set<String> shown = new TreeSet<>(Set.of("write"));
        Matcher call = CALL.matcher(readme);
        while (call.find()) {
            x.due(call.group(1), Long.parseLong(call.group(3)));
            shown.add(call.group(2));
        }
        for (java.lang.reflect.Method m : OnByThursday.class.getMethods()) {
            if (m.getDeclaringClass() == OnByThursday.class) {
                Stage.compare("README.md shows " + m.getName(), shown.contains(m.getName()) ? 1 : 0, 1);
            }
        }
        Stage.end();
    }
}
