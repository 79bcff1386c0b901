import java.util.function.Supplier;

/** All that can be asked of a street, as a text; what only a setter tells is set back. */
final class Picture {
    private static final int PITCHES = 6;
    private static final int ACTS = 8;
    private static final int TURNS = 8;
    private static final int VISITS = 6;
    private static final int DAYS = 11;

    private Picture() {
    }

    static String of(Hatpitch x) {
        StringBuilder text = new StringBuilder();
        text.append("sum ").append(x.checksum()).append(" fines ").append(x.fines());
        text.append(" sound ").append(x.isSound()).append(" orders ").append(x.orders());
        addPitches(text, x);
        addActs(text, x);
        addDay(text, x);
        addSettings(text, x);
        return text.toString();
    }

    private static void addPitches(StringBuilder text, Hatpitch x) {
        for (int p = 0; p < PITCHES; p++) {
            int pitch = p;
            for (int hour = 10; hour < 20; hour++) {
                int minute = hour * 60 + 59;
                add(text, "passers", () -> x.passersAt(pitch, minute));
            }
            for (int t = 0; t < TURNS; t++) {
                int turn = t;
                add(text, "turn", () -> x.turnAt(pitch, turn));
                add(text, "broken", () -> x.isBroken(pitch, turn));
                for (char what : "bemscd".toCharArray()) {
                    add(text, "of", () -> x.of(pitch, turn, what));
                }
            }
        }
    }

    private static void addActs(StringBuilder text, Hatpitch x) {
        for (int a = 0; a < ACTS; a++) {
            int act = a;
            add(text, "money", () -> x.money(act));
            add(text, "lot", () -> x.lotAt(act));
            add(text, "first", () -> x.orderAt(0, act));
            add(text, "last", () -> x.orderAt(x.orders() - 1, act));
            add(text, "permit", () -> permit(x, act));
        }
    }

    private static boolean permit(Hatpitch x, int act) {
        boolean before = x.setPermit(act, true);
        x.setPermit(act, before);
        return before;
    }

    private static void addDay(StringBuilder text, Hatpitch x) {
        for (int v = 0; v < VISITS; v++) {
            int visit = v;
            add(text, "why", () -> x.fineAt(visit));
            add(text, "sum", () -> x.sumAt(visit));
        }
        for (int d = 1; d <= DAYS; d++) {
            int ago = d;
            add(text, "diary", () -> x.diary(ago));
        }
        add(text, "share", () -> x.goodShare());
        add(text, "mean", () -> x.meanMoney());
    }

    /** The distance by law can't be asked; a limit set back would put it to another one. */
    private static void addSettings(StringBuilder text, Hatpitch x) {
        int cold = x.setCold(0);
        x.setCold(cold);
        int z = x.seed(1);
        x.seed(z);
        text.append(" cold ").append(cold).append(" z ").append(z);
    }

    private static void add(StringBuilder text, String name, Supplier<Object> call) {
        String answer;
        try {
            answer = String.valueOf(call.get());
        } catch (RuntimeException e) {
            answer = e.getClass().getSimpleName();
        }
        text.append(' ').append(name).append(' ').append(answer);
    }
}
