import java.io.ByteArrayOutputStream;
import java.io.File;
import java.io.IOException;
import java.io.PrintStream;
import java.lang.reflect.Field;
import java.net.URL;
import java.net.URLClassLoader;
import java.nio.file.Files;
import java.nio.file.Path;
import java.util.Set;
import java.util.TreeSet;
import java.util.regex.Matcher;
import java.util.regex.Pattern;
import javax.tools.JavaCompiler;
import javax.tools.ToolProvider;

/** What README.md tells holds: its example compiles and prints what it tells, and its tables are whole. */
public final class ReadmeTest {
    private static final Path TESTS = Path.of("src/test/java");

    private static int wrong = 0;

    private static void check(String what, Object got, Object want) {
        if (!got.equals(want)) {
            wrong++;
            System.out.println(what + ": " + got + ", due is " + want);
        }
    }

    /** The first block of a kind, such as ```java; empty, if there is none. */
    private static String blockOf(String readme, String kind) {
        Matcher block = Pattern.compile("^```" + kind + "\n(.*?)^```$", Pattern.MULTILINE | Pattern.DOTALL)
                .matcher(readme);
        return block.find() ? block.group(1) : "";
    }

    /** The names in the first column of the tables, such as | `FaceTest` |. */
    private static Set<String> firstColumn(String readme, String nameForm) {
        Set<String> names = new TreeSet<>();
        Matcher row = Pattern.compile("^\\| `(" + nameForm + ")` \\|", Pattern.MULTILINE).matcher(readme);
        while (row.find()) {
            names.add(row.group(1));
        }
        return names;
    }

    private static String printedBy(String program) throws Exception {
        Path work = Files.createTempDirectory("readme");
        Path source = work.resolve("Example.java");
        Files.writeString(source, program);
        JavaCompiler compiler = ToolProvider.getSystemJavaCompiler();
        int failed = compiler.run(null, null, null, "-encoding", "UTF-8", "-d", work.toString(),
                "src/main/java/PlumbShaft.java", source.toString());
        String printed = failed == 0 ? printedByClassIn(work) : "(it does not compile)";
        remove(work);
        return printed;
    }

    private static String printedByClassIn(Path classes) throws Exception {
        PrintStream screen = System.out;
        ByteArrayOutputStream printed = new ByteArrayOutputStream();
        URL[] places = {classes.toUri().toURL()};
        try (URLClassLoader loader = new URLClassLoader(places, ClassLoader.getPlatformClassLoader())) {
            System.setOut(new PrintStream(printed, true, "UTF-8"));
            loader.loadClass("Example").getMethod("main", String[].class).invoke(null, (Object) new String[0]);
        } finally {
            System.setOut(screen);
        }
        return printed.toString("UTF-8").replace("\r\n", "\n");
    }

    private static void remove(Path directory) throws IOException {
        File[] files = directory.toFile().listFiles();
        for (File file : files == null ? new File[0] : files) {
            Files.delete(file.toPath());
        }
        Files.delete(directory);
    }

    private static Set<String> testFiles() {
        Set<String> names = new TreeSet<>();
        String[] files = TESTS.toFile().list();
        for (String file : files == null ? new String[0] : files) {
            names.add(file.replace(".java", ""));
        }
        return names;
    }

    private static Set<String> constants() {
        Set<String> names = new TreeSet<>();
        for (Field field : PlumbShaft.class.getFields()) {
            names.add(field.getName());
        }
        return names;
    }

    /** A length may be as low as the numbers of the errors, as the document leaves it. */
    private static void checkLowLengths() {
        PlumbShaft shaft = new PlumbShaft();
        shaft.hang(0, -96, 0, 1, 447);
        shaft.addCurrent(0, 800, -50, 0);
        shaft.addStation(447, 0);
        check("a rest as low as UNKNOWN", shaft.rest(0, 447, 0), PlumbShaft.UNKNOWN);
        check("a position as low as UNKNOWN", shaft.position(0, 447, 0), PlumbShaft.UNKNOWN);
        check("the depth tells that it is a length", shaft.wire(0, 3), 447);
        check("the spread of its observation", shaft.observe(0, 0, 3), 0);
        check("a mean as low as UNKNOWN", shaft.observation(0, 0, 0), PlumbShaft.UNKNOWN);
        check("the spread tells that it is a mean", shaft.observation(0, 0, 2), 0);
    }

    public static void main(String[] args) throws Exception {
        String readme = Files.readString(Path.of("README.md"));
        check("what the example prints", printedBy(blockOf(readme, "java")), blockOf(readme, "text"));
        check("the tests of the table", firstColumn(readme, "\\w+Test"), testFiles());
        check("the constants of the table", firstColumn(readme, "[A-Z_]+"), constants());
        check("the README tells .ci/run", readme.contains("```sh\n.ci/run\n```"), true);
        check(".ci/run can be run", new File(".ci/run").canExecute(), true);
        checkLowLengths();
        System.out.println(wrong == 0 ? "the readme is as due" : wrong + " parts of the readme are not as due");
        if (wrong != 0) {
            System.exit(1);
        }
    }
}
