import java.lang.reflect.Method;
import java.lang.reflect.Modifier;
import java.nio.file.Files;
import java.nio.file.Path;
import java.util.function.Supplier;
import java.util.regex.Matcher;
import java.util.regex.Pattern;

/** Makes the calls that README.md shows, all in one run, and compares what it says of their answers. */
public final class ReadmeTest {
    private static final Pattern BLOCK = Pattern.compile("```java\n(.*?)```", Pattern.DOTALL);
    /** Statements, a last call, and its answer; words may stand behind a colon. */
    private static final Pattern ANSWERED =
            Pattern.compile("(.*; )?(\\w+ \\w+ = )?([^;]+); +// ([^:]+)(: .*)?");

    public static void main(String[] args) throws Exception {
        String source = runOf(Files.readString(Path.of("README.md")));
        hasEachCall(source);
        Class<?> run = Built.load("readme", "ReadmeRun", source, ReadmeTest.class.getClassLoader());
        run.getMethod("run").invoke(null);
        Check.end();
    }

    private static void hasEachCall(String run) {
        for (Method method : Fuzzyseg.class.getDeclaredMethods()) {
            if (Modifier.isPublic(method.getModifiers())) {
                String call = "memory." + method.getName() + "(";
                Check.same("README.md shows " + call, true, run.contains(call));
            }
        }
    }

    private static String runOf(String readme) {
        StringBuilder run = new StringBuilder("public class ReadmeRun {\npublic static void run() {\n");
        Matcher block = BLOCK.matcher(readme);
        while (block.find()) {
            for (String line : block.group(1).split("\n")) {
                addLine(run, line);
            }
        }
        return run.append("}\n}\n").toString();
    }

    private static void addLine(StringBuilder run, String line) {
        Matcher parts = ANSWERED.matcher(line);
        if (!parts.matches()) {
            Check.same("README.md tells the answer of " + line, false, line.contains("//"));
            run.append(line).append('\n');
            return;
        }
        String call = parts.group(3);
        String made = call;
        if (parts.group(1) != null) {
            run.append(parts.group(1)).append('\n');
        }
        if (parts.group(2) != null) {
            run.append(parts.group(2)).append(call).append(";\n");
            made = parts.group(2).split(" ")[1];
        }
        run.append("ReadmeTest.due(").append(quoted(call)).append(", ").append(quoted(parts.group(4)))
                .append(", () -> ").append(made).append(");\n");
    }

    private static String quoted(String text) {
        return '"' + text.replace("\\", "\\\\").replace("\"", "\\\"") + '"';
    }

    /** Called by what is made of the README: the answer that it tells is written as Java writes it. */
    public static void due(String call, String want, Supplier<Object> made) {
        Object got = Check.outcomeOf(made::get);
        String shown = got instanceof Character ? "'" + got + "'" : got.toString();
        Check.same("README.md: " + call, want, shown.replace("throws.", "throws "));
    }
}
