import java.io.ByteArrayOutputStream;
import java.io.IOException;
import java.io.PrintStream;
import java.net.URL;
import java.net.URLClassLoader;
import java.nio.file.DirectoryStream;
import java.nio.file.Files;
import java.nio.file.Path;
import java.util.ArrayList;
import java.util.List;
import java.util.regex.Matcher;
import java.util.regex.Pattern;
import javax.tools.ToolProvider;

/** README.md's example prints what the page says that it does, and the page names every test. */
public final class ReadmeTest {
    private static final Check c = new Check("ReadmeTest");
    private static final Pattern EXAMPLE = Pattern.compile("(?s)```java\n(.*?)```");
    private static final Pattern PRINTED = Pattern.compile("System\\.out\\.println\\((.*)\\);(?: *// (-?\\d+)\\b)?");

    public static void main(String[] args) throws Exception {
        Path root = Path.of(System.getProperty("project.root", "."));
        String page = Files.readString(root.resolve("README.md"));
        Matcher example = EXAMPLE.matcher(page);
        c.holds("an example stands there", example.find());
        printsAsSaid(example.group(1));
        c.holds("one example", !example.find());
        namesEachTest(page, root.resolve("src/test/java"));
        c.end();
    }

    private static void printsAsSaid(String code) throws Exception {
        List<String> calls = new ArrayList<>();
        List<String> said = new ArrayList<>();
        for (Matcher m = PRINTED.matcher(code); m.find();) {
            calls.add(m.group(1));
            said.add(m.group(2));
        }
        String[] printed = printedBy(code).split("\n");
        c.holds("it prints", !said.isEmpty());
        c.due("lines printed", printed.length, said.size());
        for (int i = 0; i < said.size() && i < printed.length; i++) {
            c.holds(calls.get(i) + " prints " + printed[i] + ", said is " + said.get(i), printed[i].equals(said.get(i)));
        }
    }

    /** Compiles the example just as it stands on the page, and runs it. */
    private static String printedBy(String code) throws Exception {
        Path work = Files.createTempDirectory("readme");
        Path file = Files.writeString(work.resolve("Example.java"), code);
        int failed = ToolProvider.getSystemJavaCompiler().run(null, null, null,
            "-cp", System.getProperty("java.class.path"), "-d", work.toString(), file.toString());
        c.due("the example compiles", failed, 0);
        PrintStream screen = System.out;
        ByteArrayOutputStream caught = new ByteArrayOutputStream();
        try (URLClassLoader loader = new URLClassLoader(new URL[] {work.toUri().toURL()})) {
            System.setOut(new PrintStream(caught, true));
            loader.loadClass("Example").getMethod("main", String[].class).invoke(null, (Object) new String[0]);
        } finally {
            System.setOut(screen);
            remove(work);
        }
        return caught.toString().replace("\r", "");
    }

    private static void remove(Path folder) throws IOException {
        try (DirectoryStream<Path> files = Files.newDirectoryStream(folder)) {
            for (Path file : files) Files.delete(file);
        }
        Files.delete(folder);
    }

    private static void namesEachTest(String page, Path folder) throws IOException {
        try (DirectoryStream<Path> files = Files.newDirectoryStream(folder, "*{Test,Edges}.java")) {
            for (Path file : files) {
                String name = file.getFileName().toString().replace(".java", "");
                c.holds("it names " + name, page.contains("`" + name + "`"));
            }
        }
    }
}
