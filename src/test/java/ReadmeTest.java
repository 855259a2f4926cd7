import java.io.IOException;
import java.lang.reflect.Method;
import java.nio.file.DirectoryStream;
import java.nio.file.Files;
import java.nio.file.Path;
import java.util.Arrays;
import java.util.regex.Matcher;
import java.util.regex.Pattern;

/** README.md: its example answers what it says there, and it tells of each call and of each test. */
public final class ReadmeTest {
    public static void main(String[] args) throws IOException, ReflectiveOperationException {
        String page = Files.readString(Path.of("README.md"));
        example(page);
        calls(page);
        tests(page);
        Check.end();
    }

    private static void holds(String what, boolean so) {
        Check.due("README.md " + what + " (1)", so ? 1 : 0, 1);
    }

    private static void example(String page) throws ReflectiveOperationException {
        String program = page.substring(page.indexOf("```java"), page.indexOf("```", page.indexOf("```java") + 7));
        AnsweredFates x = new AnsweredFates();
        Matcher text = Pattern.compile("String text = \"([^\"]*)\";").matcher(program);
        holds("has a text", text.find());
        for (char letter : text.group(1).toCharArray()) x.feed(letter);
        Matcher line = Pattern.compile("\nx\\.(\\w+)\\(([^)]*)\\); +// (-?\\d+): ").matcher(program);
        int lines = 0;
        while (line.find()) {
            lines++;
            Check.due("README.md: " + line.group(1) + "(" + line.group(2) + ")", call(x, line.group(1), line.group(2)), Integer.parseInt(line.group(3)));
        }
        Check.due("lines of the example that tell an answer", lines, program.split("\nx\\.").length - 1);
        holds("has an example", lines > 0);
    }

    private static int call(AnsweredFates x, String name, String with) throws ReflectiveOperationException {
        Object[] numbers = with.isEmpty() ? new Object[0] : Arrays.stream(with.split(", ")).map(Integer::valueOf).toArray();
        Class<?>[] types = new Class<?>[numbers.length];
        Arrays.fill(types, int.class);
        return (int) AnsweredFates.class.getMethod(name, types).invoke(x, numbers);
    }

    private static void calls(String page) throws IOException {
        String document = Files.readString(Path.of("../shared/DOC.md"));
        FaceTest.methodsOf(document).forEach((name, with) -> {
            String call = "`" + name + "(" + with.replace("int ", "") + ")`";
            holds("tells of " + call, page.contains(call));
        });
        for (Method m : AnsweredFates.class.getMethods()) {
            if (m.getDeclaringClass() == AnsweredFates.class) holds("tells of " + m.getName(), page.contains("`" + m.getName() + "("));
        }
    }

    private static void tests(String page) throws IOException {
        int files = 0;
        try (DirectoryStream<Path> all = Files.newDirectoryStream(Path.of("src/test/java"), "*{Test,Edges}.java")) {
            for (Path file : all) {
                files++;
                String name = file.getFileName().toString().replace(".java", "");
                holds("tells of " + name, Pattern.compile("\n\\|[^|]*\\b" + name + "\\b[^|]*\\|").matcher(page).find());
            }
        }
        holds("tells of tests", files > 10);
        Matcher row = Pattern.compile("\\b\\w+(Test|Edges)\\b").matcher(page);
        while (row.find()) holds("is right: there is " + row.group(), Files.exists(Path.of("src/test/java", row.group() + ".java")));
    }
}
