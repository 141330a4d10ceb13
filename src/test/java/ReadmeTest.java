import java.io.ByteArrayOutputStream;
import java.io.IOException;
import java.io.PrintStream;
import java.lang.reflect.Method;
import java.lang.reflect.Modifier;
import java.net.URL;
import java.net.URLClassLoader;
import java.nio.file.Files;
import java.nio.file.Path;
import java.util.ArrayList;
import java.util.Arrays;
import java.util.List;
import java.util.regex.Matcher;
import java.util.regex.Pattern;
import java.util.stream.Stream;
import javax.tools.ToolProvider;

/** README.md is all that a newcomer reads: what it shows has to run, and to leave nothing out. */
public final class ReadmeTest {
    private static final Path README = Path.of("README.md");
    private static final Path TESTS = Path.of("src", "test", "java");
    private static final Path BUILD = Path.of("build", "readme");

    public static void main(String[] args) throws Exception {
        String text = Files.readString(README);
        exampleRuns(text);
        eachCallIsTold(text);
        eachTestIsTold(text);
        Check.end();
    }

    private static void exampleRuns(String text) throws Exception {
        String printed = outputOf(compile(block(text, "java")));
        String due = block(text, "text");
        Check.same("the example prints \"" + printed + "\", due is \"" + due + "\"",
            printed.equals(due) ? 1 : 0, 1);
    }

    /** The first block of this language. */
    private static String block(String text, String language) {
        Matcher found = Pattern.compile("```" + language + "\n(.*?)```", Pattern.DOTALL)
            .matcher(text);
        boolean stands = found.find();
        Check.same("there is a block of " + language, stands ? 1 : 0, 1);
        return stands ? found.group(1) : "";
    }

    private static Path compile(String program) throws IOException {
        Files.createDirectories(BUILD);
        Path file = BUILD.resolve("Example.java");
        Files.writeString(file, program);
        int exit = ToolProvider.getSystemJavaCompiler().run(null, null, null,
            "-cp", System.getProperty("java.class.path"), "-d", BUILD.toString(), file.toString());
        Check.same("exit code of javac for the example", exit, 0);
        return BUILD;
    }

    private static String outputOf(Path classes) throws Exception {
        PrintStream console = System.out;
        ByteArrayOutputStream printed = new ByteArrayOutputStream();
        try (URLClassLoader loader = new URLClassLoader(new URL[] {classes.toUri().toURL()})) {
            Method main = loader.loadClass("Example").getMethod("main", String[].class);
            System.setOut(new PrintStream(printed, true));
            main.invoke(null, (Object) new String[0]);
        } finally {
            System.setOut(console);
        }
        return printed.toString().replace(System.lineSeparator(), "\n");
    }

    /** Behind its name each call stands once in the tables, with as many arguments as it takes. */
    private static void eachCallIsTold(String text) {
        List<String> told = new ArrayList<>();
        Matcher row = Pattern.compile("(?m)^\\| `(\\w+)\\(([^)]*)\\)` \\|").matcher(text);
        while (row.find()) {
            String arguments = row.group(2);
            told.add(row.group(1) + " " + (arguments.isEmpty() ? 0 : arguments.split(",").length));
        }
        List<String> due = new ArrayList<>();
        for (Method method : DoorbellChoir.class.getDeclaredMethods()) {
            if (Modifier.isPublic(method.getModifiers())) {
                due.add(method.getName() + " " + method.getParameterCount());
            }
        }
        told.sort(null);
        due.sort(null);
        Check.same("the calls told are " + told + ", due are " + due, told.equals(due) ? 1 : 0, 1);
    }

    private static void eachTestIsTold(String text) throws IOException {
        try (Stream<Path> files = Files.list(TESTS)) {
            String[] names = files.map(file -> file.getFileName().toString())
                .filter(name -> name.endsWith("Test.java"))
                .map(name -> name.replace(".java", ""))
                .toArray(String[]::new);
            for (String name : names) {
                Check.same("the test " + name + " is told", text.contains("| `" + name + "` |")
                    ? 1 : 0, 1);
            }
            Check.same("there are tests: " + Arrays.toString(names), names.length > 0 ? 1 : 0, 1);
        }
        Check.same("the command is told", text.contains("\n.ci/run\n") ? 1 : 0, 1);
    }
}
