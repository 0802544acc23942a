import java.io.IOException;
import java.net.URL;
import java.net.URLClassLoader;
import java.nio.file.Files;
import java.nio.file.Path;
import java.util.ArrayList;
import java.util.List;
import java.util.stream.Stream;
import javax.tools.ToolProvider;

/** Sources that a test makes, compiled in a folder of their own, which is gone when it is closed. */
final class Compiled implements AutoCloseable {
    private final Path folder;
    private final URLClassLoader loader;

    private Compiled(Path folder) throws IOException {
        this.folder = folder;
        // Not the test's own classes: the program among them is not the one that was compiled here.
        URL[] classes = {folder.toUri().toURL()};
        this.loader = new URLClassLoader(classes, ClassLoader.getPlatformClassLoader());
    }

    /** A class that the test wrote, and the files that it uses. */
    static Compiled of(String name, String source, String... files) throws IOException {
        Path folder = Files.createTempDirectory("compiled");
        List<String> words = new ArrayList<>(List.of("-encoding", "UTF-8", "-d", folder.toString()));
        words.add(Files.writeString(folder.resolve(name + ".java"), source).toString());
        words.addAll(List.of(files));
        int failed = ToolProvider.getSystemJavaCompiler().run(null, null, null, words.toArray(new String[0]));
        Due.is("compiling " + name, 0, failed);
        return new Compiled(folder);
    }

    Class<?> get(String name) throws ClassNotFoundException {
        return loader.loadClass(name);
    }

    @Override
    public void close() throws IOException {
        loader.close();
        try (Stream<Path> files = Files.list(folder)) {
            for (Path file : files.toList()) {
                Files.delete(file);
            }
        }
        Files.delete(folder);
    }
}
