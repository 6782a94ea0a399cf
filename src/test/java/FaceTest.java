import java.io.IOException;
import java.lang.reflect.Constructor;
import java.lang.reflect.Field;
import java.lang.reflect.Method;
import java.lang.reflect.Modifier;
import java.nio.file.Files;
import java.nio.file.Path;
import java.util.Arrays;
import java.util.List;
import java.util.Set;
import java.util.TreeSet;
import java.util.stream.Collectors;

/** The face of the class and the rules of LANGUAGE.md that can be read off it. Runs in the project's folder. */
public final class FaceTest {
    private static final String[] FACE = {
        "int sign(int)", "boolean end(int)", "int game()", "int advice()", "int sheet(int, int, int, int, int, int)",
        "int profile(int, int, int)", "int of(int, int)", "int gain(int, int, int)", "int sound()", "int tight()",
        "int hangs(int)", "int values()", "int map(int)", "int corner()", "int plans()", "int sure(int)", "int left()",
        "int list(int)", "int best(int, int)", "int number(int, int)", "int which()", "int near(int, int)",
        "int beyond()", "int play(int, int, int, int)", "int calm(int, int, int, int)", "int mixed(int)",
        "int were(int, int, int)", "int range(int, int)", "int mends()", "int pays(int, int, int)",
        "int scales(int, int, int)", "int moves(int, int)", "int lays(int, int)", "int takes(int, int)", "int day()",
        "int undo()", "int years(int, int)", "boolean keep(int)", "boolean again(int)", "int count(int)", "long row(int)"
    };
    private static final String[] RULED_OUT = {
        "->", "::", "synchronized", "finally", "assert ", "catch", "Exact(", "instanceof", "System.out", "var ",
        "Random", "Thread", "Object", ".equals(", "hashCode", "toString", "float", "double", "public static void",
        "static {", "protected"
    };

    private static int wrong;

    private static void due(String what, Object got, Object want) {
        if (!got.equals(want)) {
            wrong++;
            System.out.println(what + ": " + got + ", due is " + want);
        }
    }

    private static String told(Method m) {
        String types = Arrays.stream(m.getParameterTypes()).map(Class::getName).collect(Collectors.joining(", "));
        return m.getReturnType().getName() + " " + m.getName() + "(" + types + ")";
    }

    private static void face() {
        Class<?> c = SoundAdvice.class;
        Set<String> open = new TreeSet<>();
        Set<String> openNames = new TreeSet<>();
        for (Method m : c.getDeclaredMethods()) {
            if (Modifier.isPublic(m.getModifiers())) {
                open.add(told(m));
                openNames.add(m.getName());
                due("static " + m.getName(), Modifier.isStatic(m.getModifiers()), false);
            } else {
                due("private " + m.getName(), Modifier.isPrivate(m.getModifiers()), true);
            }
        }
        due("public methods", open, new TreeSet<>(Arrays.asList(FACE)));
        due("final", Modifier.isFinal(c.getModifiers()) && Modifier.isPublic(c.getModifiers()), true);
        for (Field f : c.getDeclaredFields()) {
            due("private field " + f.getName(), Modifier.isPrivate(f.getModifiers()), !f.getName().equals("NONE"));
            due("static fields are final: " + f.getName(),
                    Modifier.isFinal(f.getModifiers()) || !Modifier.isStatic(f.getModifiers()), true);
        }
        due("fields", c.getFields().length, 1);
        Constructor<?>[] made = c.getDeclaredConstructors();
        due("constructors", made.length == 1 && made[0].getParameterCount() == 0
                && Modifier.isPublic(made[0].getModifiers()), true);
        inside(c, openNames);
    }

    private static void inside(Class<?> c, Set<String> openNames) {
        Class<?>[] classes = c.getDeclaredClasses();
        due("at most twelve classes", classes.length + 1 <= 12, true);
        for (Method m : c.getDeclaredMethods()) {
            due("a private method of a public one's name " + m.getName(),
                    Modifier.isPrivate(m.getModifiers()) && openNames.contains(m.getName()), false);
            due("seven parameters " + m.getName(), m.getParameterCount() <= 7, true);
        }
        for (Class<?> one : classes) {
            due("static " + one.getName(), Modifier.isStatic(one.getModifiers()), true);
            due("no more than twenty fields " + one.getName(), one.getDeclaredFields().length <= 20, true);
            for (Method m : one.getDeclaredMethods()) {
                due("a method of a public one's name " + m.getName(), openNames.contains(m.getName()), false);
                due("seven parameters " + m.getName(), m.getParameterCount() <= 7, true);
            }
        }
    }

    private static void source() throws IOException {
        List<String> lines = Files.readAllLines(Path.of("src/main/java/SoundAdvice.java"));
        List<String> imports = lines.stream().filter(l -> l.startsWith("import")).collect(Collectors.toList());
        due("imports", imports, List.of("import java.util.Arrays;", "import java.util.NoSuchElementException;"));
        due("package line", lines.stream().anyMatch(l -> l.startsWith("package")), false);
        for (String line : lines) {
            for (String word : RULED_OUT) {
                due("'" + word + "' in: " + line, line.contains(word), false);
            }
            due("signs 0 to 127 in: " + line, line.chars().allMatch(s -> s < 128), true);
        }
    }

    public static void main(String[] args) throws IOException {
        face();
        source();
        System.out.println("the face, " + wrong + " wrong");
        if (wrong != 0) {
            System.exit(1);
        }
    }
}
