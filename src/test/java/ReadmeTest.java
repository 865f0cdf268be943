import java.io.ByteArrayOutputStream;
import java.io.File;
import java.io.IOException;
import java.io.PrintStream;
import java.net.URL;
import java.net.URLClassLoader;
import java.nio.charset.StandardCharsets;
import java.nio.file.Files;
import java.nio.file.Path;
import java.util.regex.Matcher;
import java.util.regex.Pattern;
import javax.tools.ToolProvider;

/** README.md is right: its example prints what is said of it, and its table tells the parts that each kind takes. */
public final class ReadmeTest {
    private static final Due DUE = new Due();
    private static final int NO_MOST = 90;

    public static void main(String[] args) throws IOException, ReflectiveOperationException {
        String readme = Files.readString(Path.of("README.md"));
        table(readme);
        String printed = outputOf(block(readme, "java"));
        String said = block(readme, "text");
        DUE.is("that the example prints\n" + said + "and not\n" + printed + "the comparison", printed.equals(said), true);
        DUE.end();
    }

    private static String block(String readme, String language) {
        Matcher found = Pattern.compile("\n```" + language + "\n(.*?\n)```\n", Pattern.DOTALL).matcher(readme);
        if (!found.find()) {
            throw new IllegalStateException("README.md has no " + language + " block");
        }
        return found.group(1);
    }

    private static String outputOf(String example) throws IOException, ReflectiveOperationException {
        Path directory = Files.createTempDirectory("readme");
        Path source = Files.writeString(directory.resolve("Example.java"), example);
        String classes = System.getProperty("java.class.path");
        int compiled = ToolProvider.getSystemJavaCompiler().run(null, System.out, System.out, "--release", "17", "-Xlint:all",
                "-Werror", "-cp", classes, "-d", directory.toString(), source.toString());
        DUE.is("the compiler, for the example,", compiled, 0);
        String printed = compiled == 0 ? outputOfMain(directory) : "";
        for (File file : directory.toFile().listFiles()) {
            Files.delete(file.toPath());
        }
        Files.delete(directory);
        return printed;
    }

    private static String outputOfMain(Path directory) throws IOException, ReflectiveOperationException {
        PrintStream console = System.out;
        ByteArrayOutputStream printed = new ByteArrayOutputStream();
        try (URLClassLoader loader = new URLClassLoader(new URL[] {directory.toUri().toURL()})) {
            System.setOut(new PrintStream(printed, true, StandardCharsets.UTF_8));
            loader.loadClass("Example").getMethod("main", String[].class).invoke(null, (Object) new String[0]);
        } finally {
            System.setOut(console);
        }
        return printed.toString(StandardCharsets.UTF_8).replace(System.lineSeparator(), "\n");
    }

    private static void table(String readme) {
        Matcher row = Pattern.compile("\\| ([0-9]+) \\| ([A-Z]+)[ ab]* \\| ([0-9])(?: to ([0-9])| or (more))? \\|").matcher(readme);
        int rows = 0;
        while (row.find()) {
            int op = Integer.parseInt(row.group(1));
            DUE.is("the number of the row of " + row.group(2), op, rows);
            DUE.is("the kind " + row.group(2), Script.kind(row.group(2)), op);
            int least = Integer.parseInt(row.group(3));
            int most = row.group(4) != null ? Integer.parseInt(row.group(4)) : row.group(5) != null ? NO_MOST : least;
            parts(op, least, most);
            rows++;
        }
        DUE.is("the number of rows", rows, 20);
    }

    private static void parts(int op, int least, int most) {
        CoroutineScript x = new CoroutineScript(6, 200);
        Script.build(DUE, x, "(LOCAL:0 0 (" + op);
        for (int parts = 0; parts < least; parts++) {
            Script.refuse(DUE, x, ")");
            Script.build(DUE, x, "1");
        }
        for (int parts = least; parts < most; parts++) {
            Script.build(DUE, x, "1");
        }
        if (most < NO_MOST) {
            Script.refuse(DUE, x, "1");
        }
        Script.build(DUE, x, ")");
        CoroutineScript y = new CoroutineScript(6, 200);
        Script.build(DUE, y, "(LOCAL:0 0 (" + op + " 1".repeat(least) + ")");
    }
}
