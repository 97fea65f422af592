import java.io.IOException;
import java.nio.file.Files;
import java.nio.file.Path;
import java.util.List;
import java.util.regex.Matcher;
import java.util.regex.Pattern;

/** Those rules of ../shared/LANGUAGE.md that can be seen in the text of the class. */
public final class LanguageTest {
    private static final List<String> FORBIDDEN = List.of(
            "->", "::", "\\btry\\b", "\\bcatch\\b", "\\bfinally\\b", "\\bsynchronized\\b", "\\bassert\\b",
            "\\bSystem\\.(?!arraycopy)", "\\b\\w+Exact\\(", "\\bprotected\\b", "\\bpackage\\b",
            "\\bdouble\\[", "\\bMath\\.(?!max|min|abs)", "\\bequals\\(", "\\bhashCode\\b", "\\btoString\\b",
            "\\bRandom\\b", "\\bThread\\b", "\\bstatic \\{", "\\bwhile \\(true\\)", "\\bprintln?\\b");
    private static final List<String> IMPORTS = List.of(
            "java.util.ArrayList", "java.util.List", "java.util.NoSuchElementException");
    private static final List<String> THROWN = List.of("IllegalStateException", "IllegalArgumentException",
            "IndexOutOfBoundsException", "ArithmeticException", "UnsupportedOperationException",
            "NoSuchElementException", "RuntimeException");

    public static void main(String[] args) throws IOException {
        String source = Files.readString(Path.of("src/main/java/Fuzzyseg.java"));
        String code = source.replaceAll("(?s)/\\*.*?\\*/", "").replaceAll("//[^\n]*", "");
        for (String pattern : FORBIDDEN) {
            Check.same("has " + pattern, false, Pattern.compile(pattern).matcher(code).find());
        }
        allIn("import", code, "import ([\\w.]+);", IMPORTS);
        allIn("throw", code, "throw new (\\w+)\\(", THROWN);
        Check.same("throw of something else", false,
                Pattern.compile("throw (?!new )").matcher(code).find());
        Check.same("joins texts by +", false,
                Pattern.compile("\"\\s*\\+|\\+\\s*\"").matcher(code).find());
        Check.same("too many classes", true, code.split("\\bclass \\w+").length - 1 <= 12);
        Check.same("signs beyond 127", true, source.chars().allMatch(c -> c < 128));
        Check.end();
    }

    private static void allIn(String what, String code, String pattern, List<String> allowed) {
        Matcher found = Pattern.compile(pattern).matcher(code);
        while (found.find()) {
            Check.same(what + " " + found.group(1), true, allowed.contains(found.group(1)));
        }
    }
}
