import java.io.IOException;
import java.nio.file.Files;
import java.nio.file.Path;
import java.util.regex.Matcher;
import java.util.regex.Pattern;
import javax.tools.ToolProvider;

/** The program in README.md compiles as it stands there, and each of its calls has the answer that it says. */
final class ReadmeTest {
    private static final Pattern BLOCK = Pattern.compile("```java\n(.*?)```", Pattern.DOTALL);
    private static final Pattern ANSWER =
            Pattern.compile("(?m)^( +)(?:int (\\w+) = )?(bridge\\..*\\)); *// (-?\\d+|true|false)\\b.*$");

    public static void main(String[] args) throws IOException, ReflectiveOperationException {
        Matcher block = BLOCK.matcher(Files.readString(Path.of("README.md")));
        Bench.due("a program in README.md", block.find(), true);
        Matcher answers = ANSWER.matcher(block.group(1));
        Bench.due("answers that README.md says", answers.results().count(), 21);
        run(answers.replaceAll(ReadmeTest::asked));
        Bench.close("ReadmeTest");
    }

    /** The line with its call, and the answer looked at. */
    private static String asked(java.util.regex.MatchResult line) {
        String name = line.group(2);
        String call = line.group(3);
        String due = "Bench.due(\"README's " + call + "\", " + (name == null ? call : name) + ", " + line.group(4) + ");";
        String told = name == null ? "" : "int " + name + " = " + call + "; ";
        return Matcher.quoteReplacement(line.group(1) + told + due);
    }

    /** Compiled beside this class, so that it finds Bench. */
    private static void run(String program) throws IOException, ReflectiveOperationException {
        String classes = System.getProperty("java.class.path");
        Path file = Path.of(classes, "Example.java");
        Files.writeString(file, program);
        int failed = ToolProvider.getSystemJavaCompiler().run(null, null, null, "-d", classes, "-cp", classes, file.toString());
        Bench.due("errors of the program in README.md", failed, 0);
        if (failed == 0) {
            var main = Class.forName("Example").getDeclaredMethod("main", String[].class);
            main.invoke(null, (Object) new String[0]);
        }
    }
}
