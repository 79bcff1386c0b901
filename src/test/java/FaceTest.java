import java.io.IOException;
import java.lang.reflect.Constructor;
import java.lang.reflect.Field;
import java.lang.reflect.Method;
import java.lang.reflect.Modifier;
import java.nio.file.Files;
import java.nio.file.Path;
import java.util.ArrayList;
import java.util.Arrays;
import java.util.List;
import java.util.Set;
import java.util.TreeSet;
import java.util.regex.MatchResult;
import java.util.regex.Pattern;
import java.util.stream.Collectors;
import java.util.stream.Stream;

/** The public face just as the document gives it, and the rules of the language that a scan can see. */
public final class FaceTest {
    private static final String[] FACE = {
        "int addPitch(int, int, boolean) IllegalArgumentException UnsupportedOperationException IllegalStateException",
        "int setPassers(int, int, int) IndexOutOfBoundsException IllegalArgumentException",
        "int passersAt(int, int) IndexOutOfBoundsException IllegalArgumentException",
        "int addAct(int, int, int, int, boolean) IllegalArgumentException IllegalStateException",
        "int setLine(int, int) IndexOutOfBoundsException IllegalArgumentException",
        "boolean setPermit(int, boolean) IndexOutOfBoundsException",
        "boolean addCustom(int, int) IndexOutOfBoundsException IllegalArgumentException UnsupportedOperationException",
        "boolean endCustom(int, int) IndexOutOfBoundsException",
        "int orders()",
        "int orderAt(int, int) NoSuchElementException",
        "int drawLots()",
        "int lotAt(int) NoSuchElementException",
        "int seed(int) IllegalArgumentException",
        "int addTurn(int, int) IndexOutOfBoundsException IllegalStateException UnsupportedOperationException",
        "int turnsByLots() IllegalStateException UnsupportedOperationException",
        "boolean exchange(int, int, int) IndexOutOfBoundsException IllegalStateException UnsupportedOperationException",
        "int turnAt(int, int) IndexOutOfBoundsException NoSuchElementException",
        "int setRain(int, int) IllegalArgumentException",
        "int setCold(int) IllegalArgumentException",
        "int setLaw(int, int) IllegalArgumentException",
        "int addVisit(int, int) IndexOutOfBoundsException IllegalArgumentException IllegalStateException",
        "int join(int, int) IndexOutOfBoundsException IllegalArgumentException",
        "int play() IllegalStateException",
        "int of(int, int, char) IndexOutOfBoundsException IllegalArgumentException IllegalStateException"
            + " NoSuchElementException",
        "boolean isBroken(int, int) IndexOutOfBoundsException IllegalStateException NoSuchElementException",
        "char fineAt(int) IllegalStateException NoSuchElementException",
        "int sumAt(int) IllegalStateException NoSuchElementException",
        "int money(int) IndexOutOfBoundsException",
        "int fines()",
        "int nextDay() IllegalStateException",
        "int diary(int) NoSuchElementException",
        "long checksum()",
        "float goodShare() IllegalStateException ArithmeticException",
        "double meanMoney() ArithmeticException",
        "boolean isSound()",
    };

    private FaceTest() {
    }

    public static void main(String[] args) throws IOException {
        Expect.same("public", Modifier.isPublic(Hatpitch.class.getModifiers()), true);
        Expect.same("final", Modifier.isFinal(Hatpitch.class.getModifiers()), true);
        constructors();
        methods();
        fields();
        sizes();
        source();
        library();
        Expect.end("FaceTest");
    }

    private static void constructors() {
        Constructor<?>[] all = Hatpitch.class.getDeclaredConstructors();
        Expect.same("constructors", all.length, 1);
        Expect.same("its parameters", all[0].getParameterCount(), 0);
        Expect.same("public", Modifier.isPublic(all[0].getModifiers()), true);
    }

    private static void methods() {
        Set<String> due = new TreeSet<>(Arrays.asList(FACE));
        Set<String> got = new TreeSet<>();
        Set<String> names = new TreeSet<>();
        for (Method method : Hatpitch.class.getDeclaredMethods()) {
            if (!Modifier.isPrivate(method.getModifiers()) && !method.isSynthetic()) {
                got.add(line(method));
                names.add(method.getName());
                Expect.same(method + " is public and no static one",
                        Modifier.isPublic(method.getModifiers()) && !Modifier.isStatic(method.getModifiers()), true);
            }
        }
        Expect.sameText("the face", String.join("\n", got), String.join("\n", due));
        for (Method method : Hatpitch.class.getDeclaredMethods()) {
            boolean isPrivate = Modifier.isPrivate(method.getModifiers());
            Expect.same("a private " + method.getName(), isPrivate && names.contains(method.getName()), false);
        }
    }

    private static String line(Method method) {
        String types = Arrays.stream(method.getParameterTypes())
                .map(Class::getSimpleName).collect(Collectors.joining(", "));
        String thrown = Arrays.stream(method.getExceptionTypes())
                .map(type -> " " + type.getSimpleName()).collect(Collectors.joining());
        return method.getReturnType().getSimpleName() + " " + method.getName() + "(" + types + ")" + thrown;
    }

    private static void fields() {
        for (Field field : Hatpitch.class.getDeclaredFields()) {
            Expect.same(field + " is private", Modifier.isPrivate(field.getModifiers()), true);
        }
        Class<?>[] inside = Hatpitch.class.getDeclaredClasses();
        Expect.same("few classes", inside.length + 1 <= 12, true);
        for (Class<?> one : inside) {
            Expect.same(one + " is private", Modifier.isPrivate(one.getModifiers()), true);
            Expect.same(one + " is static", Modifier.isStatic(one.getModifiers()), true);
            for (Field field : one.getDeclaredFields()) {
                Expect.same(field + " is no static one", Modifier.isStatic(field.getModifiers()), false);
            }
        }
    }

    private static void sizes() {
        List<Class<?>> all = new ArrayList<>(List.of(Hatpitch.class.getDeclaredClasses()));
        all.add(Hatpitch.class);
        for (Class<?> one : all) {
            long fields = Stream.of(one.getDeclaredFields()).filter(f -> !Modifier.isStatic(f.getModifiers())).count();
            Expect.same(one + " has few fields", fields <= 20, true);
            for (Method method : one.getDeclaredMethods()) {
                Expect.same(method + " takes few parameters", method.getParameterCount() <= 7, true);
            }
        }
    }

    /** What the source makes, what it calls of the library, and where it writes a text. */
    private static void library() throws IOException {
        String text = Files.readString(Path.of("src/main/java/Hatpitch.java"));
        Expect.sameText("called by their class", found(text, "\\b(Math|Integer|Long|System|Arrays|String)\\.(\\w+)"),
                "[Integer.bitCount, Math.abs, Math.max, Math.min, System.arraycopy]");
        Expect.sameText("made", found(text, "\\bnew (\\w+)"), "[new Act, new ArithmeticException, new ArrayList,"
                + " new Customs, new Day, new Diary, new IllegalArgumentException, new IllegalStateException,"
                + " new IndexOutOfBoundsException, new Law, new Lots, new NoSuchElementException, new Pitch,"
                + " new Street, new Turn, new UnsupportedOperationException, new Visit, new Weather, new int]");
        long texts = text.lines().filter(line -> line.contains("\"") && !line.contains("throw new ")).count();
        Expect.same("texts that no exception tells", texts, 0);
    }

    private static String found(String text, String pattern) {
        return Pattern.compile(pattern).matcher(text).results().map(MatchResult::group)
                .collect(Collectors.toCollection(TreeSet::new)).toString();
    }

    private static void source() throws IOException {
        String text = Files.readString(Path.of("src/main/java/Hatpitch.java"));
        Expect.same("signs above 126", text.chars().anyMatch(c -> c > 126), false);
        for (String word : new String[] {"catch", "finally", "->", "::", "Exact", "synchronized", "assert",
            "instanceof", "System.nanoTime", "Random", "package "}) {
            Expect.same("the word " + word, text.contains(word), false);
        }
        long imports = text.lines().filter(line -> line.startsWith("import ")).count();
        Expect.same("imports", imports, 2);
        Expect.same("the list", text.contains("import java.util.ArrayList;"), true);
        Expect.same("the exception", text.contains("import java.util.NoSuchElementException;"), true);
    }
}
