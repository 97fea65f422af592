import java.io.IOException;
import java.net.URL;
import java.net.URLClassLoader;
import java.nio.file.Files;
import java.nio.file.Path;
import javax.tools.ToolProvider;

/** Compiles a class from a text that a test has made, and loads it. */
final class Built {
    private Built() {
    }

    static Class<?> load(String folderName, String className, String source, ClassLoader parent)
            throws IOException, ReflectiveOperationException {
        Path folder = Files.createDirectories(Path.of("build", folderName));
        Path file = folder.resolve(className + ".java");
        Files.writeString(file, source);
        int failed = ToolProvider.getSystemJavaCompiler().run(null, null, null,
                "-cp", System.getProperty("java.class.path"), "-d", folder.toString(), file.toString());
        Check.same("compiles: " + file, 0, failed);
        // Left open, as it loads the classes inside when they are first used.
        URLClassLoader loader = new URLClassLoader(new URL[] {folder.toUri().toURL()}, parent);
        return loader.loadClass(className);
    }
}
