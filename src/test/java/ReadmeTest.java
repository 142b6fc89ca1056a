import java.io.File;
import java.nio.charset.StandardCharsets;
import java.nio.file.Files;
import java.nio.file.Path;
import java.util.Arrays;
import java.util.Set;
import java.util.TreeSet;
import java.util.regex.Matcher;
import java.util.regex.Pattern;

/** What README.md says is so: its examples answer what stands behind them, and the classes and tests that it names are those there are. */
public final class ReadmeTest {
    private static final Pattern EXAMPLE = Pattern.compile("```java\n(.*?)```", Pattern.DOTALL);
    private static final Pattern TEXT = Pattern.compile("(?:String )?text = \"([^\"]*)\";");
    private static final Pattern ANSWERED = Pattern.compile("x\\.(\\w+)\\(([-\\d, ]*)\\); *// ([A-Z]+|-?\\d+)\\b.*");
    private static final int LEAST_ANSWERS = 20;

    public static void main(String[] args) throws Exception {
        Path root = Path.of(System.getProperty("root"));
        String readme = Files.readString(root.resolve("README.md"), StandardCharsets.UTF_8);
        examples(readme);
        classes(readme);
        tests(readme, root.resolve("src/test/java").toFile());
        Check.holds("how the tests are run is told", readme.contains("    .ci/run\n") && Files.isExecutable(root.resolve(".ci/run")));
        Check.finish("ReadmeTest");
    }

    /** All examples are one life of one object, in their order. */
    private static void examples(String readme) throws Exception {
        SnowDays x = new SnowDays();
        int answers = 0;
        Matcher example = EXAMPLE.matcher(readme);
        while (example.find()) {
            for (String line : example.group(1).split("\n")) {
                answers += follow(x, line.strip()) ? 1 : 0;
            }
        }
        Check.holds("the examples have answers: " + answers, answers >= LEAST_ANSWERS);
    }

    private static boolean follow(SnowDays x, String line) throws Exception {
        Matcher text = TEXT.matcher(line);
        if (text.matches()) {
            Check.feed(x, text.group(1));
            return false;
        }
        Matcher answered = ANSWERED.matcher(line);
        if (!answered.matches()) {
            boolean isFrame = line.isEmpty() || line.startsWith("SnowDays x = new") || line.startsWith("for (int k = 0; k < text.length(); k++) x.feed(");
            Check.holds("a line of an example is followed: " + line, isFrame);
            return false;
        }
        Check.same("README.md: " + line, call(x, answered.group(1), answered.group(2)), number(answered.group(3)));
        return true;
    }

    private static int call(SnowDays x, String name, String arguments) throws Exception {
        Object[] given = arguments.isBlank() ? new Object[0] : Arrays.stream(arguments.split(",")).map(each -> Integer.valueOf(each.strip())).toArray();
        Class<?>[] kinds = new Class<?>[given.length];
        Arrays.fill(kinds, int.class);
        return (int) SnowDays.class.getMethod(name, kinds).invoke(x, given);
    }

    private static int number(String told) throws Exception {
        return Character.isLetter(told.charAt(0)) ? SnowDays.class.getField(told).getInt(null) : Integer.parseInt(told);
    }

    private static Set<String> named(String readme, String pattern) {
        Set<String> found = new TreeSet<>();
        Matcher matcher = Pattern.compile(pattern).matcher(readme);
        while (matcher.find()) {
            found.add(matcher.group(1));
        }
        return found;
    }

    private static void classes(String readme) {
        Set<String> inside = new TreeSet<>();
        for (Class<?> each : SnowDays.class.getDeclaredClasses()) {
            inside.add(each.getSimpleName());
        }
        int begin = readme.indexOf("## How it is built");
        int end = readme.indexOf("## How to run");
        Check.holds("the sections are there", begin >= 0 && end > begin);
        Set<String> told = named(readme.substring(Math.max(0, begin), Math.max(begin, end)), "`([A-Z]\\w*)`");
        Check.holds("the classes inside are " + inside + ", told are " + told, told.equals(inside));
    }

    private static void tests(String readme, File directory) {
        Set<String> there = new TreeSet<>();
        for (String file : directory.list()) {
            if (file.endsWith("Test.java")) {
                there.add(file.substring(0, file.length() - ".java".length()));
            }
        }
        Set<String> told = named(readme, "`(\\w+Test)`");
        Check.holds("the tests are " + there + ", told are " + told, told.equals(there));
    }
}
