import java.io.IOException;
import java.lang.reflect.Method;
import java.net.URL;
import java.net.URLClassLoader;
import java.nio.file.Files;
import java.nio.file.Path;
import javax.tools.ToolProvider;

/**
 * Promise 40: the two ways agree in the class as it is, so only a copy of it with one of them spoiled
 * shows whether isSound looks at both.
 */
public final class SoundTest {
    private static final Path CLASS = Path.of("src/main/java/Fuzzyseg.java");

    public static void main(String[] args) throws Exception {
        Check.same("40 as it is", true, isSoundWith("as-it-is", "", ""));
        Check.same("40 a cost from the ends that is too high", false,
                isSoundWith("cost", "return below[0];", "return below[0] + 1;"));
        Check.same("40 of equal units the first one", false,
                isSoundWith("best", "!isBetter(topScore, topLikeness, rated, alike)",
                        "isBetter(rated, alike, topScore, topLikeness)"));
        Check.end();
    }

    private static boolean isSoundWith(String name, String right, String spoiled)
            throws IOException, ReflectiveOperationException {
        String source = Files.readString(CLASS);
        Check.same("there is " + right, true, source.contains(right));
        Path folder = Files.createDirectories(Path.of("build/sound", name));
        Path copy = folder.resolve("Fuzzyseg.java");
        Files.writeString(copy, source.replace(right, spoiled));
        int failed = ToolProvider.getSystemJavaCompiler().run(null, null, null,
                "-d", folder.toString(), copy.toString());
        Check.same("compiles: " + name, 0, failed);
        URL[] where = {folder.toUri().toURL()};
        try (URLClassLoader loader = new URLClassLoader(where, ClassLoader.getPlatformClassLoader())) {
            return isSound(loader.loadClass("Fuzzyseg"));
        }
    }

    /** Two equal units and two segments, of which the second one is like them. */
    private static boolean isSound(Class<?> type) throws ReflectiveOperationException {
        Object x = type.getConstructor().newInstance();
        Method word = type.getMethod("word", int.class);
        for (int unit = 0; unit < 2; unit++) {
            word.invoke(x, 1);
            type.getMethod("takeSource").invoke(x);
            word.invoke(x, 2);
            type.getMethod("addUnit").invoke(x);
        }
        word.invoke(x, 90);
        type.getMethod("mark", char.class).invoke(x, '!');
        word.invoke(x, 1);
        type.getMethod("open").invoke(x);
        return (boolean) type.getMethod("isSound").invoke(x);
    }
}
