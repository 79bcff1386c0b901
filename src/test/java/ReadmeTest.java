import java.io.IOException;
import java.lang.reflect.InvocationTargetException;
import java.lang.reflect.Method;
import java.lang.reflect.Modifier;
import java.nio.file.Files;
import java.nio.file.Path;
import java.util.List;
import java.util.Set;
import java.util.TreeSet;
import java.util.regex.Matcher;
import java.util.regex.Pattern;
import java.util.stream.Collectors;
import java.util.stream.Stream;

/** What README.md shows is so: its calls with their answers, its table of calls, its tests and its commands. */
public final class ReadmeTest {
    private static final Path PAGE = Path.of("README.md");
    private static final Path TESTS = Path.of("src/test/java");

    /** A call, its arguments, and the answer that ends with a sign of punctuation or a blank. */
    private static final Pattern CALL = Pattern.compile(
            "street\\.(\\w+)\\((.*?)\\);\\s+// (throws \\w+|'.'|[-.\\w]*\\w)([:, ].*)?");

    private ReadmeTest() {
    }

    public static void main(String[] args) throws IOException, ReflectiveOperationException {
        String page = Files.readString(PAGE);
        calls(page);
        tableOfCalls(page);
        tableOfTests(page);
        commands(page);
        Expect.end("ReadmeTest");
    }

    private static void calls(String page) throws ReflectiveOperationException {
        Hatpitch street = null;
        boolean isJava = false;
        int streets = 0;
        for (String line : page.lines().toList()) {
            if (line.startsWith("```")) {
                isJava = line.equals("```java");
            } else if (isJava && line.equals("Hatpitch street = new Hatpitch();")) {
                street = new Hatpitch();
                streets++;
            } else if (isJava) {
                call(street, line);
            }
        }
        Expect.same("streets", streets, 2);
    }

    private static void call(Hatpitch street, String line) throws ReflectiveOperationException {
        Matcher parts = CALL.matcher(line);
        if (street == null || !parts.matches()) {
            Expect.tell("no call with its answer: " + line);
            return;
        }
        Expect.sameText(line, answer(street, parts.group(1), parts.group(2)), parts.group(3));
    }

    private static String answer(Hatpitch street, String name, String arguments) throws ReflectiveOperationException {
        Object[] given = arguments.isEmpty() ? new Object[0]
                : Stream.of(arguments.split(", ")).map(ReadmeTest::argument).toArray();
        Method method = face().stream().filter(one -> one.getName().equals(name)).findAny().orElseThrow();
        try {
            Object got = method.invoke(street, given);
            return got instanceof Character ? "'" + got + "'" : String.valueOf(got);
        } catch (InvocationTargetException e) {
            return "throws " + e.getCause().getClass().getSimpleName();
        }
    }

    private static Object argument(String text) {
        if (text.equals("true") || text.equals("false")) {
            return text.equals("true");
        }
        return text.startsWith("'") ? (Object) text.charAt(1) : (Object) Integer.valueOf(text);
    }

    private static List<Method> face() {
        return Stream.of(Hatpitch.class.getDeclaredMethods())
                .filter(method -> Modifier.isPublic(method.getModifiers())).toList();
    }

    /** All names between backquotes in the first cells of the table under a heading. */
    private static Set<String> names(String page, String heading) {
        String table = page.substring(page.indexOf(heading));
        return table.lines().takeWhile(line -> line.startsWith("|"))
                .flatMap(line -> Pattern.compile("`(\\w+)`").matcher(line.split("\\|")[1]).results())
                .map(found -> found.group(1)).collect(Collectors.toCollection(TreeSet::new));
    }

    private static void tableOfCalls(String page) {
        Set<String> due = face().stream().map(Method::getName).collect(Collectors.toCollection(TreeSet::new));
        Expect.sameText("the table of calls", names(page, "| calls |").toString(), due.toString());
    }

    private static void tableOfTests(String page) throws IOException {
        try (Stream<Path> files = Files.list(TESTS)) {
            Set<String> due = files.map(file -> file.getFileName().toString())
                    .filter(file -> file.endsWith("Test.java"))
                    .map(file -> file.substring(0, file.length() - ".java".length()))
                    .collect(Collectors.toCollection(TreeSet::new));
            Expect.sameText("the table of tests", names(page, "| test |").toString(), due.toString());
        }
    }

    /** Each command that stands alone in a line is one that finds what it names. */
    private static void commands(String page) {
        List<String> commands = page.lines().filter(line -> line.startsWith("    ")).map(String::trim).toList();
        Expect.same("commands", commands.size(), 4);
        Expect.same("the script can be run", Files.isExecutable(Path.of(".ci/run")), true);
        for (String command : commands) {
            for (String word : command.split(" ")) {
                boolean isThere = !word.contains("/") || Files.exists(Path.of(word.replace("*.java", "Edge.java")));
                Expect.same(command + ": " + word, isThere, true);
            }
            if (command.startsWith("java ")) {
                String test = command.substring(command.lastIndexOf(' ') + 1);
                Expect.same(command, Files.exists(TESTS.resolve(test + ".java")), true);
            }
        }
    }
}
