import java.io.IOException;
import java.lang.reflect.Field;
import java.lang.reflect.Method;
import java.lang.reflect.Modifier;
import java.nio.file.Files;
import java.nio.file.Path;
import java.util.Arrays;
import java.util.Set;
import java.util.TreeSet;
import java.util.regex.Matcher;
import java.util.regex.Pattern;
import java.util.stream.Collectors;

/** What ../shared/LANGUAGE.md asks of the file, as far as its text and its classes tell. */
public final class LanguageTest {
    private static final String FACE = "int ward(int,int,int);int wardOf(int,int);int trial(int,int);int listed(int);"
        + "int teapot(int,int);int of(int,int);int change(int,int,int);int merit(int,int);int go(int);int now(int);"
        + "int ahead(int,int,int);int leads(int);int when(int);int votes(int,int);int dry();int heatFor(int,int);"
        + "int kindFor(int,int);int cupsFor(int,int);int tryFor(int,int);int smash(int,int);int liked(int,int);"
        + "int fits(int,int,int);int kinds(int,int);int elect(int);long odds(int,int,int,int);int seed(int);"
        + "int feed(int,int);int wipe();int text();int hold(int,int);int as(int,int);int sheet(int,int,int);"
        + "int write(int,int,int);int copy(int,int,int,int,int);int load(int);int judge(int);int image();int undo();"
        + "int tear();int count(int);int status(int)";
    private static final String[] RULED_OUT = {"throw", "throws", "try", "catch", "finally", "synchronized", "assert",
        "import", "package", "new Object", "hashCode", "toString", "record", "float", "double", "Exact", "->", "::",
        "@", "static \\{", "protected", "native", "volatile", "Thread", "System\\.(?!arraycopy)"};

    private static final Set<String> LIBRARY = Set.of("Math.max", "Math.min", "Math.abs", "Integer.bitCount",
        "System.arraycopy");
    private static final Set<String> MADE = Set.of("Borough", "Tape", "Sheet", "Teapot", "int");

    private LanguageTest() {
    }

    private static String told(Method m) {
        return m.getReturnType() + " " + m.getName() + Arrays.stream(m.getParameterTypes()).map(Class::toString)
            .collect(Collectors.joining(",", "(", ")"));
    }

    private static void face() {
        Set<String> got = new TreeSet<>();
        Set<String> names = new TreeSet<>();
        for (Method m : PourElection.class.getDeclaredMethods()) {
            if (Modifier.isPublic(m.getModifiers())) {
                got.add(told(m));
                names.add(m.getName());
            }
        }
        Check.holds("the face is the document's", got.equals(new TreeSet<>(Set.of(FACE.split(";")))));
        for (Method m : PourElection.class.getDeclaredMethods()) {
            int how = m.getModifiers();
            Check.holds(m + " is public or private", Modifier.isPublic(how) || Modifier.isPrivate(how));
            Check.holds(m + " bears a name of its own", Modifier.isPublic(how) || !names.contains(m.getName()));
        }
        Check.holds("final", Modifier.isFinal(PourElection.class.getModifiers()));
        Check.due("constructors", PourElection.class.getDeclaredConstructors().length, 1);
        for (Field f : PourElection.class.getDeclaredFields()) {
            Check.holds(f + " is private", Modifier.isPrivate(f.getModifiers()));
        }
    }

    private static void classes() {
        Class<?>[] inside = PourElection.class.getDeclaredClasses();
        Check.holds("at most twelve classes", inside.length < 12);
        fields(PourElection.class);
        for (Class<?> c : inside) {
            Check.holds(c + " is static", Modifier.isStatic(c.getModifiers()));
            fields(c);
        }
    }

    private static void fields(Class<?> c) {
        int own = 0;
        for (Field f : c.getDeclaredFields()) {
            own += Modifier.isStatic(f.getModifiers()) ? 0 : 1;
            Check.holds(f + " is final if static", !Modifier.isStatic(f.getModifiers()) || Modifier.isFinal(f.getModifiers()));
        }
        Check.holds(c + " has at most twenty fields", own <= 20);
    }

    private static void words(String code) {
        for (String word : RULED_OUT) {
            String sought = Character.isLetter(word.charAt(0)) ? "\\b" + word + (word.endsWith(")") ? "" : "\\b") : word;
            Matcher m = Pattern.compile(sought).matcher(code);
            Check.holds("no " + word, !m.find());
        }
        Check.holds("texts are not joined by +", !Pattern.compile("\"\\s*\\+|\\+\\s*\"").matcher(code).find());
    }

    /** Of the library's static calls and of what is made only these stand; all are in LANGUAGE.md's list. */
    private static void library(String code) {
        Matcher calls = Pattern.compile("\\b[A-Z]\\w*[a-z]\\w*\\.\\w+(?=\\()").matcher(code);
        while (calls.find()) {
            Check.holds("of the library: " + calls.group(), LIBRARY.contains(calls.group()));
        }
        Matcher made = Pattern.compile("\\bnew (\\w+)").matcher(code);
        while (made.find()) {
            Check.holds("made: " + made.group(1), MADE.contains(made.group(1)));
        }
    }

    private static void methods(String code) {
        Matcher m = Pattern.compile("\n( {4}| {8})(?:[a-z]+ )*[\\w\\[\\]]+ ?\\w*\\(([^)]*)\\) \\{\n(.*?)\n\\1\\}", Pattern.DOTALL).matcher(code);
        int seen = 0;
        while (m.find()) {
            seen++;
            Check.holds("short: " + m.group().split("\n")[1], m.group(3).split("\n").length <= 60);
            Check.holds("few parameters", m.group(2).split(",").length <= 7);
        }
        Check.holds("methods were seen", seen > 90);
    }

    public static void main(String[] args) throws IOException {
        Path root = Path.of(System.getProperty("project.root", "."));
        String file = Files.readString(root.resolve("src/main/java/PourElection.java"));
        String code = file.replaceAll("(?s)/\\*.*?\\*/|//[^\n]*", "");
        Check.holds("signs 1 to 126", file.chars().allMatch(c -> c > 0 && c < 127));
        face();
        classes();
        words(code);
        library(code);
        methods(code);
        Check.end("LanguageTest");
    }
}
