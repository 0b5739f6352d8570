import java.io.IOException;
import java.lang.reflect.Constructor;
import java.lang.reflect.Field;
import java.lang.reflect.Method;
import java.lang.reflect.Modifier;
import java.nio.file.Files;
import java.nio.file.Path;
import java.util.Arrays;
import java.util.Set;
import java.util.TreeSet;
import java.util.regex.Matcher;
import java.util.regex.Pattern;

/** The face of the class, and what a reader of its text can see of LANGUAGE.md's rules. */
public final class LanguageTests {
    private static final Checks CHECKS = new Checks("LanguageTests");

    private static final String[] METHODS = {
        "int letters(long)", "int blank()", "int fault()", "int machine()", "int part(int,int,int)",
        "int as(int,int,int)", "int print(int)", "int run(int,int,boolean)", "int mend(int,int,int)", "int copy(int)",
        "int mark(int,int,int,int,boolean)", "int length(int)", "int picture(int,int,int)",
        "int lets(int,int,int,int,int)", "int rounds(int,int,int)", "long chance(int,int,int,int,int,int)",
        "int whose(int)", "int wound(int,int,int,boolean,int)", "int trace(int,int)", "int clear()",
        "int gone(int,int)", "int earlier(int,int,int,int)", "int lacks(int,int,int)", "int tree(int,int)",
        "int whole(int,int,int)", "int left(int)", "int image()", "int restore()", "int count(int)", "long digest()",
    };

    private static final String[] REFUSED = {
        "throw", "throws", "try", "catch", "finally", "synchronized", "assert", "import", "package", "protected",
        "native", "volatile", "transient", "var", "yield", "lambda", "Object", "Exception", "Error", "System.out",
        "Thread", "Random", "Override", "equals", "hashCode", "toString", "MAX_VALUE", "MIN_VALUE", "NaN",
    };

    public static void main(String[] args) throws IOException {
        face();
        inside(LinesDownFilm.class);
        for (Class<?> c : LinesDownFilm.class.getDeclaredClasses()) {
            CHECKS.hold("static: " + c, Modifier.isStatic(c.getModifiers()) || c.isInterface());
            CHECKS.hold("not public: " + c, !Modifier.isPublic(c.getModifiers()));
            inside(c);
        }
        CHECKS.hold("twelve classes", LinesDownFilm.class.getDeclaredClasses().length + 1 <= 12);
        text(Files.readString(Path.of(args[0])));
        CHECKS.close();
    }

    private static void face() {
        Set<String> methods = new TreeSet<>();
        Set<String> names = new TreeSet<>();
        for (Method m : LinesDownFilm.class.getDeclaredMethods()) {
            if (Modifier.isPrivate(m.getModifiers())) {
                continue;
            }
            CHECKS.hold("public, not static: " + m, Modifier.isPublic(m.getModifiers())
                && !Modifier.isStatic(m.getModifiers()) && m.getExceptionTypes().length == 0);
            names.add(m.getName());
            String types = Arrays.toString(Arrays.stream(m.getParameterTypes()).map(Class::getName).toArray());
            methods.add(m.getReturnType().getName() + " " + m.getName()
                + types.replace(" ", "").replace('[', '(').replace(']', ')'));
        }
        CHECKS.hold("the methods: " + methods, methods.equals(new TreeSet<>(Arrays.asList(METHODS))));
        for (Method m : LinesDownFilm.class.getDeclaredMethods()) {
            CHECKS.hold("its own name: " + m, !Modifier.isPrivate(m.getModifiers()) || !names.contains(m.getName()));
        }
        Set<String> fields = new TreeSet<>();
        for (Field f : LinesDownFilm.class.getDeclaredFields()) {
            if (!Modifier.isPrivate(f.getModifiers())) {
                CHECKS.hold("a constant: " + f, f.getType() == int.class
                    && f.getModifiers() == (Modifier.PUBLIC | Modifier.STATIC | Modifier.FINAL));
                fields.add(f.getName());
            }
        }
        CHECKS.hold("the constants: " + fields,
            fields.equals(Set.of("NONE", "UNKNOWN", "OUTSIDE", "STATE", "FULL")));
        Constructor<?>[] made = LinesDownFilm.class.getDeclaredConstructors();
        CHECKS.hold("one constructor", made.length == 1 && made[0].getParameterCount() == 0
            && Modifier.isPublic(made[0].getModifiers()));
        CHECKS.hold("a final class", Modifier.isFinal(LinesDownFilm.class.getModifiers()));
    }

    private static void inside(Class<?> c) {
        int own = 0;
        for (Field f : c.getDeclaredFields()) {
            if (Modifier.isStatic(f.getModifiers())) {
                CHECKS.hold("final: " + f, Modifier.isFinal(f.getModifiers()));
                CHECKS.hold("a constant's type: " + f, f.getType().isPrimitive() || f.getType() == String.class
                    || f.getType() == int[].class || f.getType() == long[].class);
            } else {
                own++;
            }
        }
        CHECKS.hold("fields of " + c, own <= 20);
        for (Method m : c.getDeclaredMethods()) {
            CHECKS.hold("parameters of " + m, m.getParameterCount() <= 7);
            CHECKS.hold("no lambda: " + m, !m.isSynthetic());
            CHECKS.hold("no private one with a public one's name: " + m, !Modifier.isPrivate(m.getModifiers())
                || Arrays.stream(METHODS).noneMatch(told -> told.contains(" " + m.getName() + "(")));
        }
    }

    private static void text(String source) {
        String code = source.replaceAll("(?s)/\\*.*?\\*/", " ").replaceAll("//[^\n]*", " ");
        for (String word : REFUSED) {
            Matcher m = Pattern.compile("\\b" + Pattern.quote(word) + "\\b").matcher(code);
            CHECKS.hold("without " + word, !m.find());
        }
        CHECKS.hold("no lambda, no method reference", !code.contains("->") && !code.contains("::"));
        CHECKS.hold("signs 1 to 127", source.chars().allMatch(c -> c > 0 && c < 128));
        recursion(code);
        int length = 0;
        for (String line : code.split("\n")) {
            length = line.matches(" {4,8}[a-z].*\\) \\{") ? 0 : length + 1;
            if (line.matches(" {4,8}\\}")) {
                CHECKS.hold("short methods: " + length, length <= 60);
            }
            CHECKS.hold("no line above 120 signs: " + line, line.length() <= 120);
        }
    }

    /** Rule 8 lets a static method call itself; of others, some call one another. */
    private static void recursion(String code) {
        Pattern head = Pattern.compile(" {4,8}((?:[a-z]+ )*)[A-Za-z]+(?:\\[\\])* ([a-z]\\w*)\\(.*\\) \\{");
        String name = null;
        int heads = 0;
        for (String line : code.split("\n")) {
            Matcher m = head.matcher(line);
            if (m.matches()) {
                heads++;
                name = m.group(1).contains("private static ") ? null : m.group(2);
            } else if (name != null) {
                CHECKS.hold(name + " does not call itself",
                    !Pattern.compile("(?<![\\w.])(?:this\\.)?" + name + "\\(").matcher(line).find());
            }
        }
        CHECKS.hold("methods are found: " + heads, heads > 100);
    }
}
