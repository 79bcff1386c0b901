import java.util.HashSet;
import java.util.NoSuchElementException;
import java.util.Set;
import java.util.function.Supplier;

/** Boundary cases: each is a test of its own, on a street of its own, with a name that no other one has. */
final class Edge {
    interface Ask {
        Object of(Hatpitch x);
    }

    interface AskWith {
        Object of(Hatpitch x, int number);
    }

    static final Class<IllegalArgumentException> ARGUMENT = IllegalArgumentException.class;
    static final Class<IllegalStateException> STATE = IllegalStateException.class;
    static final Class<IndexOutOfBoundsException> INDEX = IndexOutOfBoundsException.class;
    static final Class<UnsupportedOperationException> UNSUPPORTED = UnsupportedOperationException.class;
    static final Class<NoSuchElementException> NONE = NoSuchElementException.class;
    static final Class<ArithmeticException> ARITHMETIC = ArithmeticException.class;

    /** A bit, a byte or a short that holds a number too large for it would take these for the least one. */
    private static final int[] WRAPS = {-256, -64, -32, 32, 64, 256, 65536};

    private static final Set<String> NAMES = new HashSet<>();

    private Edge() {
    }

    static void answers(String name, Hatpitch x, Object due, Ask call) {
        begin(name);
        Expect.sameText(name, textOf(x, call), String.valueOf(due));
    }

    static void refuses(String name, Hatpitch x, Class<? extends RuntimeException> due, Ask call) {
        begin(name);
        Expect.refuses(name, x, due, () -> call.of(x));
    }

    /** The least and the most number are taken, and the first beyond them and far ones are not. */
    static void range(String name, int least, int most, Class<? extends RuntimeException> due,
            Supplier<Hatpitch> made, AskWith call) {
        taken(name, least, made, call);
        if (most != least) {
            taken(name, most, made, call);
        }
        refused(name, (long) least - 1, least, most, due, made, call);
        refused(name, (long) most + 1, least, most, due, made, call);
        refused(name, Integer.MIN_VALUE, least, most, due, made, call);
        refused(name, Integer.MAX_VALUE, least, most, due, made, call);
        for (int wrap : WRAPS) {
            refused(name, (long) least + wrap, least, most, due, made, call);
        }
    }

    private static void taken(String name, int number, Supplier<Hatpitch> made, AskWith call) {
        String whole = name + " " + number + " is taken";
        begin(whole);
        String got = textOf(made.get(), x -> call.of(x, number));
        Expect.same(whole + " (" + got + ")", got.startsWith("threw"), false);
    }

    /** A number of the range, one that is no int, or one that was looked at already is passed over. */
    private static void refused(String name, long number, int least, int most,
            Class<? extends RuntimeException> due, Supplier<Hatpitch> made, AskWith call) {
        String whole = name + " " + number + " is refused";
        boolean isIn = number >= least && number <= most;
        if (!isIn && number == (int) number && !NAMES.contains(whole)) {
            refuses(whole, made.get(), due, x -> call.of(x, (int) number));
        }
    }

    private static String textOf(Hatpitch x, Ask call) {
        try {
            return String.valueOf(call.of(x));
        } catch (RuntimeException e) {
            return "threw " + e;
        }
    }

    /** Several answers as one, parted by blanks. */
    static String row(Object... answers) {
        StringBuilder text = new StringBuilder();
        for (Object answer : answers) {
            text.append(text.length() > 0 ? " " : "").append(answer);
        }
        return text.toString();
    }

    private static void begin(String name) {
        if (!name.matches("(promise [1-9][0-9]?, [a-zA-Z]+|terms, [a-z]+): .+")) {
            Expect.tell("a case without its promise: " + name);
        }
        if (!NAMES.add(name)) {
            Expect.tell("two cases of one name: " + name);
        }
    }

    static void end(String test) {
        System.out.println(test + ": " + NAMES.size() + " cases");
        Expect.end(test);
    }
}
