import java.io.IOException;
import java.nio.file.Files;
import java.nio.file.Path;
import java.util.regex.Matcher;
import java.util.regex.Pattern;

/** The example of README.md answers what it says there. */
public final class ReadmeTests {
    private static final Path README = Path.of("README.md");
    private static final Pattern LOOP = Pattern.compile("for \\(char character : \"(.*)\"\\.toCharArray\\(\\)\\) \\{");
    private static final Pattern CALL = Pattern.compile("engine\\.(\\w+)\\((.*?)\\);");
    private static final Pattern ANSWER = Pattern.compile("// (true|false|\\d+|'.')");
    private static final Pattern LINE = Pattern.compile("the line is \"(.*)\"");

    public static void main(String[] arguments) {
        Checks.test("README: the example of how to use it", ReadmeTests::example);
        Checks.end();
    }

    private static void example() {
        String[] lines = exampleOf(README).split("\n");
        RegexTracer engine = new RegexTracer();
        String typed = "";
        int answers = 0;
        for (String line : lines) {
            Matcher loop = LOOP.matcher(line);
            Matcher call = CALL.matcher(line);
            if (loop.find()) {
                typed = loop.group(1);
            } else if (call.find() && call.group(2).equals("character")) {
                type(engine, call.group(1), typed);
            } else if (call.find(0)) {
                answers += answers(engine, call, line) ? 1 : 0;
            }
        }
        Checks.yes("the example tells some answers", answers >= 8);
    }

    private static String exampleOf(Path path) {
        try {
            String text = Files.readString(path);
            int begin = text.indexOf("```java\n");
            return text.substring(begin, text.indexOf("```\n", begin));
        } catch (IOException unreadable) {
            throw new IllegalStateException(unreadable);
        }
    }

    private static void type(RegexTracer engine, String name, String characters) {
        for (char character : characters.toCharArray()) {
            Calls.call(engine, name, character, 0, 0);
        }
    }

    private static boolean answers(RegexTracer engine, Matcher call, String line) {
        int[] numbers = new int[3];
        int count = 0;
        for (String argument : call.group(2).split(", ")) {
            numbers[count++] = argument.matches("\\d+") ? Integer.parseInt(argument) : 0;
        }
        String got = Calls.call(engine, call.group(1), numbers[0], numbers[1], numbers[2]);
        Matcher answer = ANSWER.matcher(line);
        if (!answer.find()) {
            return false;
        }
        String told = answer.group(1);
        Checks.same(line, got, told.startsWith("'") ? "" + (int) told.charAt(1) : told);
        Matcher written = LINE.matcher(line);
        if (written.find()) {
            Checks.same(line, Engines.lineOf(engine), written.group(1));
        }
        return true;
    }
}
