import java.io.ByteArrayOutputStream;
import java.io.IOException;
import java.io.PrintStream;
import java.lang.reflect.Method;
import java.lang.reflect.Modifier;
import java.net.URL;
import java.net.URLClassLoader;
import java.nio.file.DirectoryStream;
import java.nio.file.Files;
import java.nio.file.Path;
import java.util.Comparator;
import java.util.List;
import java.util.stream.Collectors;
import java.util.stream.Stream;
import javax.tools.JavaCompiler;
import javax.tools.ToolProvider;

/** README.md names each call and each test, and its program prints what it says. */
public final class ReadmeTest {
    private static int wrong = 0;

    private static void demand(boolean holds, String what) {
        if (!holds) {
            wrong++;
            System.out.println("README.md: " + what);
        }
    }

    /** The first block that is marked as being of a kind. */
    private static String block(String page, String kind) {
        String opening = "\n```" + kind + "\n";
        int start = page.indexOf(opening);
        int end = start < 0 ? -1 : page.indexOf("\n```\n", start + opening.length() - 1);
        demand(end >= 0, "there is no block of kind " + kind);
        return end < 0 ? "" : page.substring(start + opening.length(), end + 1);
    }

    private static void checkNames(String page) throws IOException {
        for (Method m : RunmergeOffice.class.getDeclaredMethods())
            if (Modifier.isPublic(m.getModifiers())) demand(page.contains("`" + m.getName() + "`"), "it does not name " + m.getName());
        try (DirectoryStream<Path> tests = Files.newDirectoryStream(Path.of("src/test/java"), "*.java")) {
            for (Path test : tests) {
                String name = test.getFileName().toString().replace(".java", "");
                demand(page.contains("`" + name + "`"), "it does not name " + name);
            }
        }
        demand(page.contains("\n.ci/run\n"), "it does not tell how to run the tests");
    }

    private static String printedBy(String program, String name, Path folder) throws Exception {
        Path source = Files.writeString(folder.resolve(name + ".java"), program);
        JavaCompiler compiler = ToolProvider.getSystemJavaCompiler();
        int status = compiler.run(null, null, null, "-d", folder.toString(), "-cp", System.getProperty("java.class.path"), source.toString());
        demand(status == 0, "its program cannot be compiled");
        if (status != 0) return "";
        ByteArrayOutputStream printed = new ByteArrayOutputStream();
        PrintStream before = System.out;
        try (URLClassLoader loader = new URLClassLoader(new URL[] {folder.toUri().toURL()})) {
            System.setOut(new PrintStream(printed, true));
            loader.loadClass(name).getMethod("main", String[].class).invoke(null, (Object) new String[0]);
        } finally {
            System.setOut(before);
        }
        return printed.toString().replace(System.lineSeparator(), "\n");
    }

    private static void checkProgram(String page) throws Exception {
        Path folder = Files.createTempDirectory("readme");
        String due = block(page, "text");
        String printed = printedBy(block(page, "java"), "Sorting", folder);
        demand(printed.equals(due), "its program prints\n" + printed);
        try (Stream<Path> files = Files.walk(folder)) {
            List<Path> all = files.sorted(Comparator.reverseOrder()).collect(Collectors.toList());
            for (Path one : all) Files.delete(one);
        }
    }

    public static void main(String[] args) throws Exception {
        String page = Files.readString(Path.of("README.md"));
        checkNames(page);
        checkProgram(page);
        System.out.println(wrong == 0 ? "README.md holds" : wrong + " things in README.md do not hold");
        if (wrong != 0) System.exit(1);
    }
}
