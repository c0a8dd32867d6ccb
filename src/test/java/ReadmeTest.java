import java.io.ByteArrayOutputStream;
import java.io.File;
import java.io.IOException;
import java.io.InputStream;
import java.lang.reflect.Method;
import java.lang.reflect.Modifier;
import java.nio.charset.StandardCharsets;
import java.nio.file.Files;
import java.nio.file.Path;
import java.util.Comparator;
import java.util.stream.Stream;
import javax.tools.ToolProvider;

/** README.md, read from the project's directory: what it shows works, and it leaves out no call and no test. */
public final class ReadmeTest {
    public static void main(String[] args) {
        Suite.run(ReadmeTest.class);
    }

    private static String readme() throws IOException {
        return Files.readString(Path.of("README.md"));
    }

    private static String example() throws IOException {
        String text = readme();
        int from = text.indexOf("```java\n");
        int to = text.indexOf("```\n", from + 8);
        return from < 0 || to < 0 ? "" : text.substring(from + 8, to);
    }

    private static int compile(Path source, Path into) {
        return ToolProvider.getSystemJavaCompiler().run(null, null, null, "-cp", System.getProperty("java.class.path"),
            "-d", into.toString(), source.toString());
    }

    private static String printedBy(Path classes) throws IOException, InterruptedException {
        String machine = Path.of(System.getProperty("java.home"), "bin", "java").toString();
        String path = System.getProperty("java.class.path") + File.pathSeparator + classes;
        Process process = new ProcessBuilder(machine, "-cp", path, "Example").redirectErrorStream(true).start();
        ByteArrayOutputStream printed = new ByteArrayOutputStream();
        try (InputStream in = process.getInputStream()) {
            in.transferTo(printed);
        }
        process.waitFor();
        return printed.toString(StandardCharsets.UTF_8);
    }

    private static void remove(Path directory) throws IOException {
        try (Stream<Path> all = Files.walk(directory)) {
            for (Path one : (Iterable<Path>) all.sorted(Comparator.reverseOrder())::iterator) {
                Files.delete(one);
            }
        }
    }

    static void readme_itsExampleReadsBackWhatItWrote(Due due) throws IOException, InterruptedException {
        Path work = Files.createTempDirectory("readme");
        Path source = work.resolve("Example.java");
        Files.writeString(source, "class Example { public static void main(String[] args) {\n" + example() + "}}\n");
        int compiled = compile(source, work);
        due.is("it compiles", compiled, 0);
        String printed = compiled == 0 ? printedBy(work) : "";
        due.holds("it prints '" + printed + "'", printed.equals("the cat and the hat"));
        remove(work);
    }

    static void readme_namesEveryCall(Due due) throws IOException {
        String text = readme();
        for (Method call : ContextMix.class.getDeclaredMethods()) {
            if (Modifier.isPublic(call.getModifiers())) {
                due.holds("a row for " + call.getName(), text.contains("\n| `" + call.getName() + "("));
            }
        }
    }

    static void readme_namesEveryTest(Due due) throws IOException {
        String text = readme();
        try (Stream<Path> files = Files.list(Path.of("src", "test", "java"))) {
            for (Path file : (Iterable<Path>) files::iterator) {
                String name = file.getFileName().toString().replace(".java", "");
                due.holds(name + " is named", text.contains("`" + name + "`"));
            }
        }
    }

    /** The bounds in the table of predictors are the ones that the class keeps. */
    static void readme_tellsTheBoundsOfEachKind(Due due) throws IOException {
        String text = readme();
        for (int kind = 0; kind < 5; kind++) {
            int row = text.indexOf("| `predictor(" + kind + ", n)`");
            due.holds("a row for kind " + kind, row >= 0);
            String line = row < 0 ? "| |" : text.substring(row, text.indexOf('\n', row));
            String[] columns = line.split("\\|");
            String told = columns[columns.length - 1].trim();
            due.holds("n of kind " + kind + " is told as " + told, told.equals(boundsOf(kind)));
        }
    }

    private static String boundsOf(int kind) {
        int least = Integer.MAX_VALUE;
        int most = Integer.MIN_VALUE;
        for (int n = -300; n <= 300; n++) {
            if (new ContextMix(6).predictor(kind, n) == 0) {
                least = Math.min(least, n);
                most = Math.max(most, n);
            }
        }
        return least == -300 && most == 300 ? "any" : least + " .. " + most;
    }
}
