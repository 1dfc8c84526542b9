import java.io.ByteArrayOutputStream;
import java.io.IOException;
import java.io.PrintStream;
import java.lang.reflect.InvocationTargetException;
import java.lang.reflect.Method;
import java.lang.reflect.Modifier;
import java.net.URL;
import java.net.URLClassLoader;
import java.nio.charset.StandardCharsets;
import java.nio.file.Files;
import java.nio.file.Path;
import java.util.ArrayList;
import java.util.List;
import java.util.Set;
import java.util.TreeSet;
import java.util.regex.Matcher;
import java.util.regex.Pattern;
import java.util.stream.Stream;
import javax.tools.ToolProvider;

/** What README.md says: its program prints what it says, its calls and tests are those that there are. */
public final class ReadmeTests {
    private static int passed = 0;
    private static int failed = 0;

    private static void due(String what, Object got, Object want) {
        if (got.equals(want)) {
            passed++;
        } else {
            failed++;
            System.out.println("readme: " + what + " is " + got + ", due is " + want);
        }
    }

    /** The project's directory. */
    public static void main(String[] args) throws Exception {
        Path project = Path.of(args.length > 0 ? args[0] : ".");
        String page = Files.readString(project.resolve("README.md"));
        due("what the program prints", printed(block(page, "java")), block(page, "text"));
        due("the calls", calls(part(page, "### Calls")), callsOfFace());
        constants(page);
        tests(part(page, "## Tests"), project);
        System.out.println("ReadmeTests: " + passed + " passed, " + failed + " failed");
        System.exit(failed == 0 ? 0 : 1);
    }

    // ---- what the page says

    private static String block(String page, String kind) {
        Matcher m = Pattern.compile("(?s)```" + kind + "\n(.*?)```\n").matcher(page);
        return m.find() ? m.group(1) : "";
    }

    /** From a heading to the next one. */
    private static String part(String page, String heading) {
        Matcher m = Pattern.compile("(?s)\n" + heading + "\n(.*?)(\n#|$)").matcher(page);
        return m.find() ? m.group(1) : "";
    }

    /** Each as name/parameters. */
    private static Set<String> calls(String table) {
        Set<String> all = new TreeSet<>();
        Matcher m = Pattern.compile("`(\\w+)\\(([^)]*)\\)`").matcher(table);
        while (m.find()) {
            all.add(m.group(1) + "/" + (m.group(2).isEmpty() ? 0 : m.group(2).split(",").length));
        }
        return all;
    }

    private static Set<String> callsOfFace() {
        Set<String> all = new TreeSet<>();
        for (Method m : ClayFort.class.getDeclaredMethods()) {
            if (Modifier.isPublic(m.getModifiers())) {
                all.add(m.getName() + "/" + m.getParameterCount());
            }
        }
        return all;
    }

    /** The numbers that the page tells beside their names. */
    private static void constants(String page) {
        List<String> told = new ArrayList<>();
        Matcher m = Pattern.compile("`(UNKNOWN|OUTSIDE|STATE|FULL|NONE)`\\s+(-\\d+)").matcher(page);
        while (m.find()) {
            told.add(m.group(1) + " " + m.group(2));
        }
        due("the constants", told, List.of("UNKNOWN " + ClayFort.UNKNOWN, "OUTSIDE " + ClayFort.OUTSIDE,
            "STATE " + ClayFort.STATE, "FULL " + ClayFort.FULL, "NONE " + ClayFort.NONE));
    }

    private static void tests(String said, Path project) throws IOException {
        Set<String> named = new TreeSet<>();
        for (String line : said.split("\n(?=- )")) {
            if (line.startsWith("- `")) {
                Matcher m = Pattern.compile("`(\\w+)`").matcher(line.substring(0, line.indexOf(':')));
                while (m.find()) {
                    named.add(m.group(1));
                }
            }
        }
        due("the tests", named, testsThere(project));
        String script = Files.readString(project.resolve(".ci/run"));
        for (String test : named) {
            due("whether .ci/run runs " + test, Pattern.compile("\\b" + test + "\\b").matcher(script).find(), true);
        }
        due("whether .ci/run can be run", Files.isExecutable(project.resolve(".ci/run")), true);
        Matcher files = Pattern.compile("(?<= )(\\.\\./shared|src)/[\\w/]+\\.java").matcher(said);
        while (files.find()) {
            due("whether there is " + files.group(), Files.exists(project.resolve(files.group())), true);
        }
    }

    private static Set<String> testsThere(Path project) throws IOException {
        Set<String> all = new TreeSet<>();
        try (Stream<Path> files = Files.list(project.resolve("src/test/java"))) {
            for (Path file : files.toList()) {
                if (Files.readString(file).contains("public static void main(")) {
                    all.add(file.getFileName().toString().replace(".java", ""));
                }
            }
        }
        return all;
    }

    // ---- what its program prints

    private static String printed(String program) throws Exception {
        Path place = Files.createTempDirectory("readme");
        Path file = place.resolve("UseFort.java");
        try {
            Files.writeString(file, program);
            int code = ToolProvider.getSystemJavaCompiler().run(null, null, null, "-Xlint:all", "-Werror",
                "-d", place.toString(), "-cp", System.getProperty("java.class.path"), file.toString());
            return code == 0 ? run(place) : "a program that is not compiled";
        } finally {
            Files.deleteIfExists(file);
            Files.deleteIfExists(place.resolve("UseFort.class"));
            Files.delete(place);
        }
    }

    private static String run(Path place) throws Exception {
        PrintStream own = System.out;
        ByteArrayOutputStream all = new ByteArrayOutputStream();
        try (URLClassLoader loader = new URLClassLoader(new URL[] {place.toUri().toURL()})) {
            System.setOut(new PrintStream(all, true, StandardCharsets.UTF_8));
            loader.loadClass("UseFort").getMethod("main", String[].class).invoke(null, (Object) new String[0]);
        } catch (InvocationTargetException e) {
            return "a program that throws " + e.getCause();
        } finally {
            System.setOut(own);
        }
        return all.toString(StandardCharsets.UTF_8);
    }
}
