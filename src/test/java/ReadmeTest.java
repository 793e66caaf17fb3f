import java.lang.reflect.Method;
import java.nio.file.Files;
import java.nio.file.Path;
import java.util.Arrays;
import java.util.List;
import java.util.regex.Matcher;
import java.util.regex.Pattern;
import java.util.stream.Stream;

/** README.md tells what is so: its example is run, its table has each call of the document. Run in the project's folder. */
public final class ReadmeTest {
    private static final Checks CHECKS = new Checks("ReadmeTest");
    private static final Pattern FACE = Pattern.compile("public (?:int|long|boolean) (\\w+)\\(([^)]*)\\);");
    private static final Pattern CALL = Pattern.compile("x\\.(\\w+)\\(([^)]*)\\); +// (-?\\w+).*");

    private ReadmeTest() {
    }

    public static void main(String[] args) throws Exception {
        String page = Files.readString(Path.of("README.md"));
        calls(page, Files.readString(Path.of("../shared/DOC.md")));
        tests(page);
        example(page.substring(page.indexOf("```java") + 8));
        CHECKS.finish();
    }

    private static void calls(String page, String document) {
        Matcher face = FACE.matcher(document);
        int count = 0;
        while (face.find()) {
            String call = face.group(1) + "(" + face.group(2).replace("int ", "") + ")";
            CHECKS.due("the table has " + call, page.contains("\n| `" + call + "` | "), true);
            count++;
        }
        CHECKS.due("calls of the document", count, 32);
    }

    private static void tests(String page) throws Exception {
        try (Stream<Path> files = Files.list(Path.of("src/test/java"))) {
            for (Path file : files.toList()) {
                String name = file.getFileName().toString().replace(".java", "");
                CHECKS.due("the page names " + name, !name.endsWith("Test") || page.contains("| `" + name + "` | "), true);
            }
        }
    }

    /** Runs the example's lines; what a line's comment begins with is what its call answers. */
    private static void example(String from) throws Exception {
        List<String> lines = Arrays.asList(from.substring(0, from.indexOf("```")).split("\n"));
        CHECKS.due("the example begins with an object", lines.get(0).equals("MoodBread x = new MoodBread();"), true);
        MoodBread x = new MoodBread();
        for (String line : lines.subList(1, lines.size())) {
            Matcher call = CALL.matcher(line);
            CHECKS.due("a call with its answer: " + line, call.matches(), true);
            CHECKS.due(line, answer(x, call.group(1), call.group(2)).equals(call.group(3)), true);
        }
        CHECKS.due("the example has lines", lines.size() > 10, true);
    }

    private static String answer(MoodBread x, String name, String told) throws Exception {
        Object[] numbers = Pattern.compile("\\w+").matcher(told).results().map(number -> (Object) Integer.decode(number.group())).toArray();
        for (Method method : MoodBread.class.getMethods()) {
            if (method.getName().equals(name) && method.getParameterCount() == numbers.length) {
                return "" + method.invoke(x, numbers);
            }
        }
        return "no such call";
    }
}
