import java.io.ByteArrayOutputStream;
import java.io.IOException;
import java.io.PrintStream;
import java.lang.reflect.Method;
import java.lang.reflect.Modifier;
import java.nio.file.Files;
import java.nio.file.Path;
import java.util.regex.Matcher;
import java.util.regex.Pattern;
import java.util.stream.Stream;

/** README.md says what is so: its example prints what it says, and it has every call and every test. */
public final class ReadmeTest {
    private static final String EXAMPLE = "Example";

    private ReadmeTest() {
    }

    public static void main(String[] args) throws Exception {
        if (args.length < 3) {
            System.out.println("give the paths of the program, of the document and of README.md");
            System.exit(1);
        }
        String readme = Files.readString(Path.of(args[2]));
        Due.about("README.md");
        calls(readme);
        tests(readme, Path.of(args[2]).resolveSibling("src/test/java"));
        example(readme, args[0]);
        Due.close();
    }

    private static void calls(String readme) {
        for (Method m : AttackBench.class.getDeclaredMethods()) {
            if (Modifier.isPublic(m.getModifiers())) {
                Matcher call = Pattern.compile("(?m)^\\|.*`" + m.getName() + "\\(([^)`]*)\\)`.*\\|$").matcher(readme);
                boolean found = call.find();
                Due.yes("a row of a table has the call of " + m.getName(), found);
                Due.is("how many " + m.getName() + " takes", m.getParameterCount(),
                    !found || call.group(1).isEmpty() ? 0 : call.group(1).split(",").length);
                for (Class<?> thrown : m.getExceptionTypes()) {
                    Due.yes("the row of " + m.getName() + " has " + thrown.getSimpleName(),
                        found && call.group().contains("`" + thrown.getSimpleName() + "`"));
                }
            }
        }
    }

    private static void tests(String readme, Path folder) throws IOException {
        Due.yes("how to run the tests", readme.contains("\n.ci/run\n"));
        try (Stream<Path> files = Files.list(folder)) {
            for (Path file : files.toList()) {
                String name = file.getFileName().toString().replace(".java", "");
                if (name.endsWith("Test")) {
                    Due.yes("what " + name + " tests", readme.contains("- `" + name + "`: "));
                }
            }
        }
    }

    private static void example(String readme, String program) throws Exception {
        String source = "public class " + EXAMPLE + " {\npublic static void main(String[] args) {\n"
            + block(readme, "java") + "}\n}\n";
        try (Compiled example = Compiled.of(EXAMPLE, source, program)) {
            String printed = print(example.get(EXAMPLE));
            Due.yes("the example prints what it says, not\n" + printed, printed.equals(block(readme, "text")));
        }
    }

    private static String block(String readme, String language) {
        Matcher found = Pattern.compile("(?s)```" + language + "\n(.*?)```").matcher(readme);
        boolean is = found.find();
        Due.yes("it has a block of " + language, is);
        return is ? found.group(1) : "";
    }

    private static String print(Class<?> example) throws ReflectiveOperationException {
        ByteArrayOutputStream printed = new ByteArrayOutputStream();
        PrintStream before = System.out;
        System.setOut(new PrintStream(printed, true));
        try {
            example.getMethod("main", String[].class).invoke(null, (Object) new String[0]);
        } finally {
            System.setOut(before);
        }
        return printed.toString().replace("\r\n", "\n");
    }
}
