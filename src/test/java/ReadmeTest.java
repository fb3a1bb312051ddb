import java.io.IOException;
import java.lang.reflect.Method;
import java.nio.file.Files;
import java.nio.file.Path;
import java.util.ArrayList;
import java.util.List;
import java.util.regex.Matcher;
import java.util.regex.Pattern;
import java.util.stream.Stream;

/** The example of README.md: what stands behind a call is what it answers. And its table has every test. */
final class ReadmeTest {
    private static final Check CHECK = new Check("ReadmeTest");
    private static final Path README = Path.of("README.md");
    private static final Path TESTS = Path.of("src/test/java");
    /** A call, its arguments, and the first word behind it: an answer ends the line, or has a colon behind it. */
    private static final Pattern CALL = Pattern.compile("x\\.(\\w+)\\((.*)\\); +// (\\S+?)(?:(:) .*|( .*)?)");
    private static final Pattern NUMBER = Pattern.compile("-?\\d+");

    private ReadmeTest() { }

    public static void main(String[] args) throws IOException, ReflectiveOperationException {
        String readme = Files.readString(README);
        theExample(readme);
        theTable(readme);
        CHECK.end();
    }

    private static List<String> exampleLines(String readme) {
        List<String> lines = new ArrayList<>();
        int begin = readme.indexOf("```java\n");
        int end = readme.indexOf("```\n", begin + 1);
        CHECK.same("there is an example", begin >= 0 && end > begin, true);
        for (String line : readme.substring(begin, end).split("\n")) {
            if (!line.isBlank() && !line.startsWith("```")) lines.add(line);
        }
        return lines;
    }

    private static void theExample(String readme) throws ReflectiveOperationException {
        List<String> lines = exampleLines(readme);
        CHECK.same("the first line", lines.get(0), "OmitMarkup x = new OmitMarkup();");
        OmitMarkup x = new OmitMarkup();
        int answers = 0;
        for (String line : lines.subList(1, lines.size())) {
            Matcher m = CALL.matcher(line);
            if (!m.matches()) {
                // a call without an answer
                m = Pattern.compile("x\\.(\\w+)\\((.*)\\);.*").matcher(line);
                CHECK.same("a call: " + line, m.matches(), true);
                ask(x, m.group(1), m.group(2));
                continue;
            }
            Object answer = ask(x, m.group(1), m.group(2));
            boolean isTold = m.group(5) == null;
            CHECK.same(line + " tells its answer", isTold, answer != null);
            if (isTold) {
                CHECK.same(line, String.valueOf(answer), m.group(3));
                answers++;
            }
        }
        CHECK.same("answers are told", answers > 20, true);
    }

    private static Object ask(OmitMarkup x, String name, String arguments) throws ReflectiveOperationException {
        String[] words = arguments.isEmpty() ? new String[0] : arguments.split(", ");
        for (Method method : OmitMarkup.class.getMethods()) {
            if (!method.getName().equals(name) || method.getParameterCount() != words.length) continue;
            Object[] values = new Object[words.length];
            for (int i = 0; i < words.length; i++) values[i] = value(words[i]);
            return method.invoke(x, values);
        }
        CHECK.same("a method " + name + " with such arguments", false, true);
        return null;
    }

    private static Object value(String word) throws ReflectiveOperationException {
        if (word.equals("true") || word.equals("false")) return word.equals("true");
        if (word.startsWith("'")) return (int) word.charAt(1);
        if (word.startsWith("OmitMarkup.")) return OmitMarkup.class.getField(word.substring("OmitMarkup.".length())).getInt(null);
        if (word.contains(" << ")) return Integer.parseInt(word.split(" << ")[0]) << Integer.parseInt(word.split(" << ")[1]);
        CHECK.same("a number: " + word, NUMBER.matcher(word).matches(), true);
        return Integer.parseInt(word);
    }

    private static void theTable(String readme) throws IOException {
        String table = readme.substring(Math.max(0, readme.indexOf("| test |")));
        try (Stream<Path> files = Files.list(TESTS)) {
            for (Path file : (Iterable<Path>) files.sorted()::iterator) {
                String name = file.getFileName().toString().replace(".java", "");
                CHECK.same(name + " is told of", Pattern.compile("\\b" + name + "\\b").matcher(table).find(), true);
            }
        }
    }
}
