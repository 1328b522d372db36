import java.io.IOException;
import java.lang.reflect.Method;
import java.nio.file.Files;
import java.nio.file.Path;
import java.util.Arrays;
import java.util.regex.Matcher;
import java.util.regex.Pattern;

/** README.md holds: its example answers what it says, its tables name each call and each finding. */
public final class ReadmeTest {
    private static final Pattern EXAMPLE = Pattern.compile("(?m)^x\\.(\\w+)\\(([^)]*)\\);\\s+// (-?\\d+)");
    private static final Pattern FACE = Pattern.compile("(?m)^    public (?:int|long) (\\w+)\\(([^)]*)\\);");
    private static final String[] FINDINGS = {"BEYOND", "FULL", "KIND", "NONE", "STATE", "MISSING", "SIZE"};

    private ReadmeTest() {
    }

    private static long answer(PourElection x, String name, Object[] given) throws ReflectiveOperationException {
        Method call = Arrays.stream(PourElection.class.getMethods())
            .filter(m -> m.getName().equals(name)).findFirst().orElseThrow();
        return ((Number) call.invoke(x, given)).longValue();
    }

    private static void example(String readme) throws ReflectiveOperationException {
        PourElection x = new PourElection();
        Matcher m = EXAMPLE.matcher(readme);
        int lines = 0;
        while (m.find()) {
            Object[] given = m.group(2).isEmpty() ? new Object[0]
                : Arrays.stream(m.group(2).split(", ")).map(Integer::decode).toArray();
            Check.due("README: " + m.group(), answer(x, m.group(1), given), Long.parseLong(m.group(3)));
            lines++;
        }
        Check.due("README: lines of its example", lines, 13);
    }

    private static void tables(String readme, String document) {
        Matcher m = FACE.matcher(document);
        int calls = 0;
        while (m.find()) {
            String call = m.group(1) + "(" + m.group(2).replace("int ", "") + ")";
            Check.holds("README: a row of " + call, readme.contains("\n| `" + call + "` |"));
            calls++;
        }
        Check.due("README: calls of the document", calls, 41);
        for (int i = 0; i < FINDINGS.length; i++) {
            String row = "\\n\\| " + (Check.BEYOND - i) + " \\| " + FINDINGS[i] + " +\\| " + i + " \\|";
            Check.holds("README: a row of " + FINDINGS[i], Pattern.compile(row).matcher(readme).find());
        }
    }

    public static void main(String[] args) throws IOException, ReflectiveOperationException {
        Path root = Path.of(System.getProperty("project.root", "."));
        String readme = Files.readString(root.resolve("README.md"));
        example(readme);
        tables(readme, Files.readString(root.resolve("../shared/DOC.md")));
        Check.end("ReadmeTest");
    }
}
