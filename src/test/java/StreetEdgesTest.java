import java.util.function.Supplier;

/** The boundary cases of promises 1 to 9: a new object, pitches, passers, acts, lines, permits and customs. */
public final class StreetEdgesTest {
    private StreetEdgesTest() {
    }

    public static void main(String[] args) {
        newObject();
        newObjectIsEmpty();
        addPitch();
        addPitchInOrder();
        setPassers();
        setPassersHours();
        passersAt();
        passersOfAMinute();
        addAct();
        addActFull();
        setLine();
        setPermit();
        addCustom();
        rings();
        endCustom();
        Edge.end("StreetEdgesTest");
    }

    private static void newObject() {
        String p = "promise 1, Hatpitch: ";
        Edge.answers(p + "one order, without acts", new Hatpitch(), 1, x -> x.orders());
        Edge.answers(p + "z is 1", new Hatpitch(), 1, x -> x.seed(2));
        Edge.answers(p + "no rain", new Hatpitch(), 0, x -> x.setRain(600, 600));
        Edge.answers(p + "no cold", new Hatpitch(), 0, x -> x.setCold(1));
        Edge.answers(p + "the limit is 99", new Hatpitch(), 99, x -> x.setLaw(1, 1));
        Edge.answers(p + "the day is 0, the next one 1", Streets.played(new Hatpitch()), 1, x -> x.nextDay());
        Edge.answers(p + "no fines", new Hatpitch(), 0, x -> x.fines());
        Edge.answers(p + "the checksum", new Hatpitch(), 31 * (31 * 7 + 0) + 1, x -> x.checksum());
        Edge.answers(p + "it is sound", new Hatpitch(), true, x -> x.isSound());
        Edge.answers(p + "nothing is given", new Hatpitch(), 0, x -> x.play());
        Edge.answers(p + "an order without places", new Hatpitch(), 0, x -> x.drawLots());
        Edge.answers(p + "one object changes nothing of another", new Hatpitch(), 6728, x -> {
            Hatpitch other = Streets.of(6, 8);
            other.seed(7);
            return x.checksum();
        });
    }

    private static void newObjectIsEmpty() {
        String p = "promise 1, Hatpitch: ";
        Edge.refuses(p + "no pitch", new Hatpitch(), Edge.INDEX, x -> x.turnAt(0, 0));
        Edge.refuses(p + "no act", new Hatpitch(), Edge.INDEX, x -> x.money(0));
        Edge.refuses(p + "no order drawn", new Hatpitch(), Edge.NONE, x -> x.lotAt(0));
        Edge.refuses(p + "no turns to give", new Hatpitch(), Edge.UNSUPPORTED, x -> x.turnsByLots());
        Edge.refuses(p + "no day was played", new Hatpitch(), Edge.STATE, x -> x.nextDay());
        Edge.refuses(p + "no share", new Hatpitch(), Edge.STATE, x -> x.goodShare());
        Edge.refuses(p + "no mean", new Hatpitch(), Edge.ARITHMETIC, x -> x.meanMoney());
        Edge.refuses(p + "no diary", new Hatpitch(), Edge.NONE, x -> x.diary(1));
        Edge.refuses(p + "no visit", new Hatpitch(), Edge.STATE, x -> x.fineAt(0));
        Edge.answers(p + "the distance by law is 0", Streets.of(0, 2), "-", x -> {
            x.addPitch(0, 0, false);
            x.addPitch(1, 0, false);
            x.addTurn(0, 0);
            x.addTurn(1, 1);
            x.addVisit(0, 600);
            x.play();
            return x.fineAt(0);
        });
    }

    private static void addPitch() {
        String p = "promise 2, addPitch: ";
        Edge.range(p + "yard", 0, 99, Edge.ARGUMENT, Hatpitch::new, (x, n) -> x.addPitch(n, 0, false));
        Edge.range(p + "echo", 0, 9, Edge.ARGUMENT, Hatpitch::new, (x, n) -> x.addPitch(0, n, true));
        Edge.answers(p + "the first is 0", Streets.of(0, 0), 0, x -> x.addPitch(5, 0, false));
        Edge.answers(p + "the sixth is 5", Streets.of(5, 0), 5, x -> x.addPitch(5, 0, false));
        Edge.refuses(p + "a seventh", Streets.of(6, 0), Edge.STATE, x -> x.addPitch(5, 0, false));
        Edge.answers(p + "a yard on either side of a pitch", Streets.of(2, 0), "2 3",
                x -> Edge.row(x.addPitch(9, 0, false), x.addPitch(11, 0, false)));
        Edge.refuses(p + "where the first pitch is", Streets.of(3, 0), Edge.UNSUPPORTED, x -> x.addPitch(0, 9, true));
        Edge.refuses(p + "where the last pitch is", Streets.of(3, 0), Edge.UNSUPPORTED, x -> x.addPitch(20, 9, true));
        Edge.answers(p + "the largest yard is kept", new Hatpitch(), 31L * (31 * (31 * (31 * 7 + 0) + 99) + 0) + 1,
                x -> {
            x.addPitch(99, 0, false);
            return x.checksum();
        });
        Edge.answers(p + "a refused one leaves its yard free", Streets.of(1, 0), 1, x -> {
            answerOrThrow(() -> x.addPitch(7, 10, false));
            return x.addPitch(7, 9, false);
        });
        Edge.answers(p + "after the day was played, too", Streets.played(Streets.of(5, 0)), 5,
                x -> x.addPitch(99, 0, false));
    }

    private static void addPitchInOrder() {
        String p = "promise 2, addPitch: ";
        Edge.refuses(p + "an echo out of range ahead of a pitch there", Streets.of(1, 0), Edge.ARGUMENT,
                x -> x.addPitch(0, 10, false));
        Edge.refuses(p + "an echo below 0 ahead of a pitch there", Streets.of(1, 0), Edge.ARGUMENT,
                x -> x.addPitch(0, -1, false));
        Edge.refuses(p + "a yard out of range ahead of a full street", Streets.of(6, 0), Edge.ARGUMENT,
                x -> x.addPitch(100, 0, false));
        Edge.refuses(p + "an echo out of range ahead of a full street", Streets.of(6, 0), Edge.ARGUMENT,
                x -> x.addPitch(1, 10, false));
        Edge.refuses(p + "a pitch there ahead of a full street", Streets.of(6, 0), Edge.UNSUPPORTED,
                x -> x.addPitch(50, 0, false));
        Edge.refuses(p + "out of range ahead of both", Streets.of(6, 0), Edge.ARGUMENT,
                x -> x.addPitch(50, 10, false));
    }

    private static void setPassers() {
        String p = "promise 3, setPassers: ";
        Edge.range(p + "pitch", 0, 5, Edge.INDEX, () -> Streets.of(6, 0), (x, n) -> x.setPassers(n, 10, 1));
        Edge.range(p + "hour", 10, 19, Edge.ARGUMENT, () -> Streets.of(1, 0), (x, n) -> x.setPassers(0, n, 1));
        Edge.range(p + "passers", 0, 600, Edge.ARGUMENT, () -> Streets.of(1, 0), (x, n) -> x.setPassers(0, 19, n));
        Edge.refuses(p + "without pitches", Streets.of(0, 0), Edge.INDEX, x -> x.setPassers(0, 10, 1));
        Edge.refuses(p + "one beyond the only pitch", Streets.of(1, 0), Edge.INDEX, x -> x.setPassers(1, 10, 1));
        Edge.refuses(p + "no pitch ahead of no hour", Streets.of(1, 0), Edge.INDEX, x -> x.setPassers(1, 9, 1));
        Edge.refuses(p + "no pitch ahead of too many", Streets.of(1, 0), Edge.INDEX, x -> x.setPassers(-1, 10, 601));
        Edge.answers(p + "0 before, at first, in the first hour", Streets.of(1, 0), 0, x -> x.setPassers(0, 10, 600));
        Edge.answers(p + "0 before, at first, in the last hour", Streets.of(1, 0), 0, x -> x.setPassers(0, 19, 600));
        Edge.answers(p + "the most before", Streets.of(1, 0), "0 600 0", x -> Edge.row(
                x.setPassers(0, 19, 600), x.setPassers(0, 19, 0), x.setPassers(0, 19, 1)));
        Edge.answers(p + "each pitch has its own", Streets.of(2, 0), "0 0 7 8", x -> Edge.row(
                x.setPassers(0, 10, 7), x.setPassers(1, 10, 8), x.setPassers(0, 10, 0), x.setPassers(1, 10, 0)));
    }

    private static void setPassersHours() {
        String p = "promise 3, setPassers: ";
        Edge.answers(p + "the first hour ends with 659", Streets.of(1, 0), "10 10 0", x -> {
            x.setPassers(0, 10, 600);
            return Edge.row(x.passersAt(0, 600), x.passersAt(0, 659), x.passersAt(0, 660));
        });
        Edge.answers(p + "an hour from its first to its last minute", Streets.of(1, 0), "0 10 10 0", x -> {
            x.setPassers(0, 14, 600);
            return Edge.row(x.passersAt(0, 839), x.passersAt(0, 840), x.passersAt(0, 899), x.passersAt(0, 900));
        });
        Edge.answers(p + "the last hour begins with 1140", Streets.of(1, 0), "0 10 10", x -> {
            x.setPassers(0, 19, 600);
            return Edge.row(x.passersAt(0, 1139), x.passersAt(0, 1140), x.passersAt(0, 1199));
        });
    }

    private static void passersAt() {
        String p = "promise 4, passersAt: ";
        Edge.range(p + "pitch", 0, 5, Edge.INDEX, () -> Streets.of(6, 0), (x, n) -> x.passersAt(n, 600));
        Edge.range(p + "minute", 600, 1199, Edge.ARGUMENT, () -> Streets.of(1, 0), (x, n) -> x.passersAt(0, n));
        Edge.refuses(p + "without pitches", Streets.of(0, 0), Edge.INDEX, x -> x.passersAt(0, 600));
        Edge.refuses(p + "one beyond the only pitch", Streets.of(1, 0), Edge.INDEX, x -> x.passersAt(1, 600));
        Edge.refuses(p + "no pitch ahead of no minute", Streets.of(1, 0), Edge.INDEX, x -> x.passersAt(1, 599));
        Edge.answers(p + "nobody at first", Streets.of(1, 0), "0 0", x -> Edge.row(
                x.passersAt(0, 600), x.passersAt(0, 1199)));
    }

    private static void passersOfAMinute() {
        String p = "promise 4, passersAt: ";
        Edge.answers(p + "the only one of an hour passes in its last minute", hour(1), "0 0 1", x -> Edge.row(
                x.passersAt(0, 600), x.passersAt(0, 658), x.passersAt(0, 659)));
        Edge.answers(p + "of 59 nobody passes in the first minute", hour(59), "0 1 1", x -> Edge.row(
                x.passersAt(0, 600), x.passersAt(0, 601), x.passersAt(0, 659)));
        Edge.answers(p + "of 60 one a minute", hour(60), "1 1 1", x -> Edge.row(
                x.passersAt(0, 600), x.passersAt(0, 601), x.passersAt(0, 659)));
        Edge.answers(p + "of 61 one more in the last minute", hour(61), "1 1 2", x -> Edge.row(
                x.passersAt(0, 600), x.passersAt(0, 658), x.passersAt(0, 659)));
        Edge.answers(p + "of 599 nine in the first minute", hour(599), "9 10 10", x -> Edge.row(
                x.passersAt(0, 600), x.passersAt(0, 601), x.passersAt(0, 659)));
        Edge.answers(p + "of 600 ten a minute", hour(600), "10 10 10", x -> Edge.row(
                x.passersAt(0, 600), x.passersAt(0, 601), x.passersAt(0, 659)));
        for (int many : new int[] {0, 1, 59, 60, 61, 599, 600}) {
            Edge.answers(p + "all minutes of an hour of " + many, hour(many), many, x -> {
                int sum = 0;
                for (int minute = 600; minute < 660; minute++) {
                    sum += x.passersAt(0, minute);
                }
                return sum;
            });
        }
    }

    private static Hatpitch hour(int passers) {
        return Streets.with(Streets.of(1, 0), x -> x.setPassers(0, 10, passers));
    }

    private static void addAct() {
        String p = "promise 5, addAct: ";
        Edge.range(p + "minutes", 5, 60, Edge.ARGUMENT, Hatpitch::new, (x, n) -> x.addAct(n, 0, 1, 1, false));
        Edge.range(p + "loudness", 0, 9, Edge.ARGUMENT, Hatpitch::new, (x, n) -> x.addAct(5, n, 1, 1, false));
        Edge.range(p + "skill", 1, 9, Edge.ARGUMENT, Hatpitch::new, (x, n) -> x.addAct(5, 0, n, 1, false));
        Edge.range(p + "line", 1, 9, Edge.ARGUMENT, Hatpitch::new, (x, n) -> x.addAct(5, 0, 1, n, true));
        Edge.answers(p + "the shortest act plays till 604", Streets.played(Streets.crowd(5, 1, 1)), 604,
                x -> x.of(0, 0, 'e'));
        Edge.answers(p + "the longest act plays till 659", Streets.played(Streets.crowd(60, 1, 1)), 659,
                x -> x.of(0, 0, 'e'));
        Edge.answers(p + "the least line and the most one are kept", Streets.of(0, 0), "0 1 1 9", x -> Edge.row(
                x.addAct(5, 0, 1, 1, false), x.addAct(5, 0, 1, 9, false), x.setLine(0, 5), x.setLine(1, 5)));
        Edge.answers(p + "no money at first", Streets.of(0, 8), "0 0", x -> Edge.row(x.money(0), x.money(7)));
        Edge.answers(p + "no permit at first, with fire", Streets.of(0, 0), "0 false", x -> Edge.row(
                x.addAct(5, 0, 1, 1, true), x.setPermit(0, false)));
    }

    private static void addActFull() {
        String p = "promise 5, addAct: ";
        Edge.answers(p + "the first is 0", Streets.of(0, 0), 0, x -> x.addAct(5, 0, 1, 1, false));
        Edge.answers(p + "the eighth is 7", Streets.of(0, 7), 7, x -> x.addAct(5, 0, 1, 1, false));
        Edge.refuses(p + "a ninth", full(), Edge.STATE, x -> x.addAct(5, 0, 1, 1, false));
        Edge.refuses(p + "minutes out of range ahead of eight", full(), Edge.ARGUMENT,
                x -> x.addAct(61, 0, 1, 1, false));
        Edge.refuses(p + "a loudness out of range ahead of eight", full(), Edge.ARGUMENT,
                x -> x.addAct(5, 10, 1, 1, false));
        Edge.refuses(p + "a skill out of range ahead of eight", full(), Edge.ARGUMENT,
                x -> x.addAct(5, 0, 0, 1, false));
        Edge.refuses(p + "a line out of range ahead of eight", full(), Edge.ARGUMENT, x -> x.addAct(5, 0, 1, 0, false));
        Edge.answers(p + "after the day was played, too", Streets.played(Streets.of(0, 7)), 7,
                x -> x.addAct(5, 0, 1, 1, false));
    }

    private static Hatpitch full() {
        return Streets.of(0, 8);
    }

    private static void setLine() {
        String p = "promise 6, setLine: ";
        Edge.range(p + "act", 0, 7, Edge.INDEX, StreetEdgesTest::full, (x, n) -> x.setLine(n, 1));
        Edge.range(p + "line", 1, 9, Edge.ARGUMENT, () -> Streets.of(0, 1), (x, n) -> x.setLine(0, n));
        Edge.refuses(p + "without acts", Streets.of(0, 0), Edge.INDEX, x -> x.setLine(0, 1));
        Edge.refuses(p + "one beyond the only act", Streets.of(0, 1), Edge.INDEX, x -> x.setLine(1, 1));
        Edge.refuses(p + "no act ahead of no line", Streets.of(0, 1), Edge.INDEX, x -> x.setLine(1, 10));
        Edge.refuses(p + "an act below 0 ahead of no line", Streets.of(0, 1), Edge.INDEX, x -> x.setLine(-1, 0));
        Edge.answers(p + "the least and the most line before", Streets.of(0, 1), "1 9 1", x -> Edge.row(
                x.setLine(0, 9), x.setLine(0, 1), x.setLine(0, 1)));
        Edge.answers(p + "each act has its own", Streets.of(0, 8), "1 1 9", x -> Edge.row(
                x.setLine(7, 9), x.setLine(6, 8), x.setLine(7, 1)));
    }

    private static void setPermit() {
        String p = "promise 7, setPermit: ";
        Edge.range(p + "act", 0, 7, Edge.INDEX, StreetEdgesTest::full, (x, n) -> x.setPermit(n, true));
        Edge.refuses(p + "without acts", Streets.of(0, 0), Edge.INDEX, x -> x.setPermit(0, true));
        Edge.refuses(p + "one beyond the only act", Streets.of(0, 1), Edge.INDEX, x -> x.setPermit(1, false));
        Edge.answers(p + "given twice and taken twice", Streets.of(0, 1), "false true true false", x -> Edge.row(
                x.setPermit(0, true), x.setPermit(0, true), x.setPermit(0, false), x.setPermit(0, false)));
        Edge.answers(p + "each act has its own", Streets.of(0, 8), "false false true", x -> Edge.row(
                x.setPermit(7, true), x.setPermit(0, false), x.setPermit(7, false)));
    }

    private static void addCustom() {
        String p = "promise 8, addCustom: ";
        Edge.range(p + "act", 0, 6, Edge.INDEX, () -> Streets.of(0, 7), (x, n) -> x.addCustom(n, n == 0 ? 1 : 0));
        Edge.range(p + "other", 0, 6, Edge.INDEX, () -> Streets.of(0, 7), (x, n) -> x.addCustom(n == 0 ? 1 : 0, n));
        Edge.refuses(p + "without acts", Streets.of(0, 0), Edge.INDEX, x -> x.addCustom(0, 0));
        Edge.refuses(p + "no act ahead of both the same", Streets.of(0, 1), Edge.INDEX, x -> x.addCustom(1, 1));
        Edge.refuses(p + "below 0 ahead of both the same", Streets.of(0, 1), Edge.INDEX, x -> x.addCustom(-1, -1));
        Edge.refuses(p + "the first with itself", Streets.of(0, 8), Edge.ARGUMENT, x -> x.addCustom(0, 0));
        Edge.refuses(p + "the last with itself", Streets.of(0, 8), Edge.ARGUMENT, x -> x.addCustom(7, 7));
        Edge.answers(p + "new, then not", Streets.of(0, 2), "true false", x -> Edge.row(
                x.addCustom(1, 0), x.addCustom(1, 0)));
        Edge.answers(p + "new again when it was ended", chain(0, 1), "true true", x -> Edge.row(
                x.endCustom(0, 1), x.addCustom(0, 1)));
        Edge.answers(p + "one that follows from others is new", chain(0, 1, 2), "true false", x -> Edge.row(
                x.addCustom(0, 2), x.addCustom(0, 2)));
        Edge.answers(p + "all that go in no ring", Streets.of(0, 8), "28 1", x -> {
            int taken = 0;
            for (int act = 0; act < 8; act++) {
                for (int other = act + 1; other < 8; other++) {
                    taken += x.addCustom(act, other) ? 1 : 0;
                }
            }
            return Edge.row(taken, x.orders());
        });
    }

    private static void rings() {
        String p = "promise 8, addCustom: ";
        Edge.refuses(p + "a ring of two", chain(0, 1), Edge.UNSUPPORTED, x -> x.addCustom(1, 0));
        Edge.refuses(p + "a ring of three by a middle number", chain(0, 1, 2), Edge.UNSUPPORTED,
                x -> x.addCustom(2, 0));
        Edge.refuses(p + "a ring of three by the least number", chain(1, 0, 2), Edge.UNSUPPORTED,
                x -> x.addCustom(2, 1));
        Edge.refuses(p + "a ring of three by the most number", chain(0, 2, 1), Edge.UNSUPPORTED,
                x -> x.addCustom(1, 0));
        Edge.refuses(p + "a ring of eight up", chain(0, 1, 2, 3, 4, 5, 6, 7), Edge.UNSUPPORTED, x -> x.addCustom(7, 0));
        Edge.refuses(p + "a ring of eight down", chain(7, 6, 5, 4, 3, 2, 1, 0), Edge.UNSUPPORTED,
                x -> x.addCustom(0, 7));
        Edge.refuses(p + "a ring of eight crosswise", chain(3, 6, 0, 7, 2, 5, 1, 4), Edge.UNSUPPORTED,
                x -> x.addCustom(4, 3));
        Edge.answers(p + "seven in a row and the eighth ahead", chain(0, 1, 2, 3, 4, 5, 6), "true 1", x -> {
            x.addAct(5, 0, 1, 1, false);
            return Edge.row(x.addCustom(7, 0), x.orders());
        });
        Edge.answers(p + "no ring with a custom ended", chain(0, 1, 2, 3, 4, 5, 6, 7), "true true", x -> Edge.row(
                x.endCustom(3, 4), x.addCustom(7, 0)));
        Edge.answers(p + "a refused one is no custom", chain(0, 1), "false 1", x -> {
            answerOrThrow(() -> x.addCustom(1, 0));
            return Edge.row(x.endCustom(1, 0), x.orders());
        });
    }

    private static Hatpitch chain(int... acts) {
        Hatpitch x = Streets.of(0, acts.length);
        for (int i = 1; i < acts.length; i++) {
            x.addCustom(acts[i - 1], acts[i]);
        }
        return x;
    }

    private static void endCustom() {
        String p = "promise 9, endCustom: ";
        Edge.range(p + "act", 0, 6, Edge.INDEX, () -> Streets.of(0, 7), (x, n) -> x.endCustom(n, 1));
        Edge.range(p + "other", 0, 6, Edge.INDEX, () -> Streets.of(0, 7), (x, n) -> x.endCustom(1, n));
        Edge.refuses(p + "without acts", Streets.of(0, 0), Edge.INDEX, x -> x.endCustom(0, 0));
        Edge.refuses(p + "no other behind an act", chain(0, 1), Edge.INDEX, x -> x.endCustom(0, 2));
        Edge.answers(p + "none was told", Streets.of(0, 2), false, x -> x.endCustom(0, 1));
        Edge.answers(p + "both the same is none", Streets.of(0, 2), "false false", x -> Edge.row(
                x.endCustom(0, 0), x.endCustom(1, 1)));
        Edge.answers(p + "the other way round is none", chain(0, 1), "false 1", x -> Edge.row(
                x.endCustom(1, 0), x.orders()));
        Edge.answers(p + "what only follows is none", chain(0, 1, 2), "false 1", x -> Edge.row(
                x.endCustom(0, 2), x.orders()));
        Edge.answers(p + "told twice, ended once", chain(0, 1), "false true false 2", x -> Edge.row(
                x.addCustom(0, 1), x.endCustom(0, 1), x.endCustom(0, 1), x.orders()));
        Edge.answers(p + "the others stay", chain(0, 1, 2), "true 3 true 6", x -> Edge.row(
                x.endCustom(0, 1), x.orders(), x.endCustom(1, 2), x.orders()));
    }

    private static void answerOrThrow(Supplier<Object> call) {
        try {
            call.get();
        } catch (RuntimeException e) {
            return;
        }
        Expect.tell("a call was taken that is to be refused");
    }
}
