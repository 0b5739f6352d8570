import java.io.ByteArrayOutputStream;
import java.io.IOException;
import java.io.PrintStream;
import java.lang.reflect.Field;
import java.lang.reflect.Method;
import java.lang.reflect.Modifier;
import java.net.URL;
import java.net.URLClassLoader;
import java.nio.charset.StandardCharsets;
import java.nio.file.Files;
import java.nio.file.Path;
import java.util.List;
import java.util.regex.Matcher;
import java.util.regex.Pattern;
import javax.tools.ToolProvider;

/** That README.md tells the class as it is; run in the project's directory. */
public final class ReadmeTests {
    private static final Checks CHECKS = new Checks("ReadmeTests");

    public static void main(String[] args) throws Exception {
        String page = Files.readString(Path.of("README.md"));
        calls(page);
        constants(page);
        example(page);
        CHECKS.hold("for how many calls an object is used", page.contains("at most 512 calls"));
        CHECKS.hold("how an object is made", page.contains("new LinesDownFilm()"));
        CHECKS.hold("how the tests are run", page.contains("    .ci/run\n"));
        tests(page);
        CHECKS.close();
    }

    /** Each call has one row of a table, with as many arguments as it takes. */
    private static void calls(String page) {
        int own = 0;
        for (Method m : LinesDownFilm.class.getDeclaredMethods()) {
            if (!Modifier.isPublic(m.getModifiers())) {
                continue;
            }
            own++;
            Matcher row = Pattern.compile("(?m)^\\| `" + m.getName() + "\\(([^)]*)\\)` \\|").matcher(page);
            CHECKS.hold("a row of " + m.getName(), row.find());
            String told = row.reset().find() ? row.group(1) : "";
            CHECKS.due("arguments of " + m.getName(), told.isEmpty() ? 0 : told.split(", ").length,
                m.getParameterCount());
            CHECKS.hold("no second row of " + m.getName(), !row.find());
        }
        CHECKS.due("rows of calls", Pattern.compile("(?m)^\\| `[a-z]+\\(").matcher(page).results().count(), own);
    }

    private static void constants(String page) throws IllegalAccessException {
        for (Field f : LinesDownFilm.class.getDeclaredFields()) {
            if (!Modifier.isPublic(f.getModifiers())) {
                continue;
            }
            int value = f.getInt(null);
            String row = value == LinesDownFilm.NONE ? "`NONE` (-1)" : "| `" + f.getName() + "` | " + value + " |";
            CHECKS.hold("the number of " + f.getName(), page.contains(row));
        }
    }

    /** What stands between the fence of that kind and its end; empty if there is none. */
    private static String fenced(String page, String kind) {
        Matcher block = Pattern.compile("(?s)```" + kind + "\n(.*?)```").matcher(page);
        return block.find() ? block.group(1) : "";
    }

    private static void example(String page) throws Exception {
        Path room = Files.createTempDirectory("readme");
        Path source = room.resolve("Example.java");
        Files.writeString(source, fenced(page, "java"));
        int refused = ToolProvider.getSystemJavaCompiler().run(null, null, null, "--release", "17", "-cp",
            System.getProperty("java.class.path"), "-d", room.toString(), source.toString());
        CHECKS.due("the compiler on the example", refused, 0);
        String printed = refused == 0 ? printedBy(room) : "";
        CHECKS.hold("the example prints what the page says, not " + printed,
            !printed.isEmpty() && printed.lines().toList().equals(fenced(page, "text").lines().toList()));
        for (String made : List.of("Example.class", "Example.java", "")) {
            Files.deleteIfExists(room.resolve(made));
        }
    }

    private static String printedBy(Path room) throws Exception {
        ByteArrayOutputStream printed = new ByteArrayOutputStream();
        PrintStream before = System.out;
        try (URLClassLoader loader = new URLClassLoader(new URL[] {room.toUri().toURL()});
                PrintStream after = new PrintStream(printed, true, StandardCharsets.US_ASCII)) {
            System.setOut(after);
            loader.loadClass("Example").getMethod("main", String[].class).invoke(null, (Object) new String[0]);
        } finally {
            System.setOut(before);
        }
        return printed.toString(StandardCharsets.US_ASCII);
    }

    private static void tests(String page) throws IOException {
        try (var files = Files.list(Path.of("src/test/java"))) {
            files.map(file -> file.getFileName().toString().replace(".java", ""))
                .filter(name -> name.endsWith("Tests"))
                .forEach(name -> CHECKS.hold("tells what " + name + " is", page.contains("`" + name + "`")));
        }
    }
}
