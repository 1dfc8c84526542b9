import java.io.IOException;
import java.lang.reflect.Field;
import java.lang.reflect.Method;
import java.lang.reflect.Modifier;
import java.nio.file.Files;
import java.nio.file.Path;
import java.util.ArrayList;
import java.util.List;
import java.util.Set;
import java.util.TreeSet;
import java.util.regex.Matcher;
import java.util.regex.Pattern;

/** What of ../shared/LANGUAGE.md can be seen from the program's text and its members. */
public final class LanguageTests {
    private static final String FACE = "ground ofGun clay soak charge hush haul sees shot is cover bare dig fill trench "
        + "sap rush silence breach day post reading back reaches kinds haunts odds sheet lose put cell copy tell fire "
        + "as trace fault many";
    private static final String CONSTANTS = "UNKNOWN OUTSIDE STATE FULL NONE LOST";
    private static final String BANNED = "throw|throws|try|catch|finally|synchronized|assert|new Object|->|::|"
        + "Random|Thread|System\\.(?!arraycopy)|Math\\.\\w*Exact|Exception|Error|hashCode|toString|package|@";

    private static int passed = 0;
    private static int failed = 0;

    private static void due(String rule, boolean is) {
        if (is) {
            passed++;
        } else {
            failed++;
            System.out.println("language: " + rule);
        }
    }

    public static void main(String[] args) throws IOException {
        String source = Files.readString(Path.of(args.length > 0 ? args[0] : "src/main/java/ClayFort.java"));
        String bare = source.replaceAll("(?s)/\\*.*?\\*/", "").replaceAll("//[^\n]*", "");
        due("only ASCII", source.chars().allMatch(c -> c < 128));
        Matcher banned = Pattern.compile("(?<!\\w)(" + BANNED + ")").matcher(bare);
        due("nothing that is banned", !banned.find());
        due("no imports but Arrays, ArrayList, List", imports(bare).stream()
            .allMatch(Set.of("java.util.Arrays", "java.util.ArrayList", "java.util.List")::contains));
        face();
        classes();
        methods(bare);
        System.out.println("LanguageTests: " + passed + " passed, " + failed + " failed");
        System.exit(failed == 0 ? 0 : 1);
    }

    private static List<String> imports(String bare) {
        List<String> all = new ArrayList<>();
        Matcher m = Pattern.compile("import\\s+([\\w.*]+)").matcher(bare);
        while (m.find()) {
            all.add(m.group(1));
        }
        return all;
    }

    private static void face() {
        Set<String> open = new TreeSet<>();
        for (Method m : ClayFort.class.getDeclaredMethods()) {
            due("public or private: " + m, Modifier.isPublic(m.getModifiers()) || Modifier.isPrivate(m.getModifiers()));
            if (Modifier.isPublic(m.getModifiers())) {
                due("one of a name: " + m, open.add(m.getName()));
            } else {
                due("no private one of a public name: " + m, !List.of(FACE.split(" ")).contains(m.getName()));
            }
        }
        due("the methods of the face", open.equals(new TreeSet<>(List.of(FACE.split(" ")))));
        Set<String> constants = new TreeSet<>();
        for (Field f : ClayFort.class.getDeclaredFields()) {
            due("constant or private: " + f, Modifier.isPublic(f.getModifiers()) || Modifier.isPrivate(f.getModifiers()));
            if (Modifier.isPublic(f.getModifiers())) {
                constants.add(f.getName());
            }
        }
        due("the constants of the face", constants.equals(new TreeSet<>(List.of(CONSTANTS.split(" ")))));
        due("one constructor", ClayFort.class.getConstructors().length == 1
            && ClayFort.class.getDeclaredConstructors().length == 1);
        due("public and final", ClayFort.class.getModifiers() == (Modifier.PUBLIC | Modifier.FINAL));
    }

    private static void classes() {
        Class<?>[] inside = ClayFort.class.getDeclaredClasses();
        due("at most twelve classes", inside.length < 12);
        for (Class<?> c : inside) {
            due("static, not open: " + c, Modifier.isStatic(c.getModifiers())
                && !Modifier.isPublic(c.getModifiers()) && !Modifier.isProtected(c.getModifiers()));
            int fields = 0;
            for (Field f : c.getDeclaredFields()) {
                boolean isStatic = Modifier.isStatic(f.getModifiers());
                due("static ones are final: " + f, !isStatic || Modifier.isFinal(f.getModifiers()));
                fields += isStatic ? 0 : 1;
            }
            due("at most twenty fields: " + c, fields <= 20);
            for (Method m : c.getDeclaredMethods()) {
                due("at most seven parameters: " + m, m.getParameterCount() <= 7);
            }
        }
    }

    private static void methods(String bare) {
        int begin = -1;
        String name = "";
        String[] lines = bare.split("\n");
        for (int k = 0; k < lines.length; k++) {
            if (lines[k].matches("( {4}| {8})[\\w<][^=;]*\\([^;]*\\) \\{") && !lines[k].matches("\\s*(if|for|switch).*")) {
                begin = k;
                name = lines[k].trim();
            }
            if (begin >= 0 && lines[k].matches("( {4}| {8})\\}")) {
                due("at most sixty lines: " + name, k - begin < 60);
                begin = -1;
            }
        }
    }
}
