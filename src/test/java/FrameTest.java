import java.util.ArrayList;
import java.util.Arrays;
import java.util.LinkedHashMap;
import java.util.List;
import java.util.Map;
import java.util.TreeSet;
import java.util.function.Supplier;

/**
 * What an accepted call changes, and what it leaves as it was: each look is taken on a fresh street and on
 * one that had the call, and those that differ have to be just those that the document gives cause for.
 */
public final class FrameTest {
    private static final int PITCHES = 4;
    private static final int ACTS = 6;
    private static final int VISITS = 4;

    private static final Map<String, Edge.Ask> LOOKS = new LinkedHashMap<>();

    private FrameTest() {
    }

    public static void main(String[] args) {
        fillLooks();
        fillLooksOfTheDay();
        pitchesAndActs();
        customsAndLots();
        turns();
        settings();
        days();
        asks(false);
        asks(true);
        Edge.end("FrameTest");
    }

    /** Room is left for each call; no number is as it is at first, and the day is told, but not played. */
    private static Hatpitch roomy() {
        Hatpitch x = new Hatpitch();
        for (int pitch = 0; pitch < PITCHES; pitch++) {
            x.addPitch(20 + 7 * pitch, 2 * pitch, pitch == 1);
            x.setPassers(pitch, 10, 600 - 30 * pitch);
            x.setPassers(pitch, 11, 300 + 30 * pitch);
        }
        for (int act = 0; act < ACTS; act++) {
            x.addAct(7 + 2 * act, 1 + act % 3, 9 - act, 2 + act, act % 2 == 0);
            x.setPermit(act, act >= 4);
        }
        x.addCustom(5, 0);
        x.addCustom(0, 3);
        x.join(2, 5);
        x.setCold(3);
        x.setLaw(25, 9);
        x.drawLots();
        x.turnsByLots();
        x.addVisit(0, 601);
        x.play();
        x.nextDay();
        return told(x);
    }

    private static Hatpitch told(Hatpitch x) {
        for (int[] turn : new int[][] {{0, 0}, {0, 1}, {1, 2}, {1, 4}, {2, 5}, {2, 5}}) {
            x.addTurn(turn[0], turn[1]);
        }
        for (int visit = 0; visit < VISITS; visit++) {
            x.addVisit(visit % 3, 602 + visit);
        }
        x.setRain(606, 608);
        return x;
    }

    private static Hatpitch roomyPlayed() {
        return Streets.played(roomy());
    }

    private static String answer(Hatpitch x, Edge.Ask call) {
        try {
            return String.valueOf(call.of(x));
        } catch (RuntimeException e) {
            return e.getClass().getSimpleName();
        }
    }

    private interface At {
        Object of(int number);
    }

    /** The answers for all numbers from 0, an exception's name among them. */
    private static String all(Hatpitch x, int many, At call) {
        Object[] found = new Object[many];
        for (int number = 0; number < many; number++) {
            int one = number;
            found[number] = answer(x, y -> call.of(one));
        }
        return Edge.row(found);
    }

    private static void fillLooks() {
        LOOKS.put("pitches", x -> all(x, 6, pitch -> x.passersAt(pitch, 600) >= 0));
        LOOKS.put("acts", x -> all(x, 8, act -> x.setPermit(act, true) || true));
        LOOKS.put("passers", x -> all(x, PITCHES * 600, n -> x.passersAt(n / 600, 600 + n % 600)));
        LOOKS.put("lines", x -> all(x, ACTS, act -> x.setLine(act, 1)));
        LOOKS.put("permits", x -> all(x, ACTS, act -> x.setPermit(act, true)));
        LOOKS.put("customs", x -> all(x, ACTS * ACTS, n -> x.endCustom(n / ACTS, n % ACTS)));
        LOOKS.put("partners", x -> all(x, ACTS - 1, act -> x.join(act, ACTS - 1)));
        LOOKS.put("orders", x -> x.orders() + ": " + all(x, 10, n -> x.orderAt(n * x.orders() / 10, 1)));
        LOOKS.put("lots", x -> all(x, 8, x::lotAt));
        LOOKS.put("z", x -> x.seed(1));
        LOOKS.put("next lots", x -> x.drawLots() + ": " + all(x, ACTS, x::lotAt));
        LOOKS.put("cold", x -> x.setCold(0));
        LOOKS.put("limit", x -> x.setLaw(0, 0));
        LOOKS.put("rain", x -> x.setRain(600, 600));
        LOOKS.put("money", x -> all(x, ACTS, x::money));
        LOOKS.put("fines", x -> x.fines());
        LOOKS.put("diary", x -> all(x, 12, x::diary));
        LOOKS.put("checksum", x -> x.checksum());
        LOOKS.put("mean", x -> x.meanMoney());
        LOOKS.put("sound", x -> x.isSound());
    }

    private static void fillLooksOfTheDay() {
        LOOKS.put("turns", x -> all(x, PITCHES * 8, n -> x.turnAt(n / 8, n % 8)));
        LOOKS.put("exchanges", x -> all(x, PITCHES, pitch -> x.exchange(pitch, 0, 1)));
        LOOKS.put("turns by lots", x -> answer(x, y -> x.turnsByLots()) + ": "
                + all(x, PITCHES * 8, n -> x.turnAt(n / 8, n % 8)));
        LOOKS.put("one more visit", x -> x.addVisit(0, 600));
        LOOKS.put("is played", x -> x.play() >= 0);
        LOOKS.put("is over", x -> x.nextDay());
        LOOKS.put("share", x -> x.goodShare());
        LOOKS.put("told", FrameTest::toldOf);
        LOOKS.put("fined", FrameTest::finedOf);
        LOOKS.put("today", x -> answer(x, y -> x.play()) + " " + toldOf(x) + " " + finedOf(x) + " " + moneyOf(x));
        LOOKS.put("tomorrow", FrameTest::tomorrow);
    }

    private static String toldOf(Hatpitch x) {
        return all(x, PITCHES * 8 * 6, n -> x.of(n / 48, n / 6 % 8, "bemscd".charAt(n % 6)))
                + all(x, PITCHES * 8, n -> x.isBroken(n / 8, n % 8));
    }

    private static String finedOf(Hatpitch x) {
        return all(x, 6, x::fineAt) + " " + all(x, 6, x::sumAt);
    }

    private static String moneyOf(Hatpitch x) {
        return all(x, ACTS, x::money);
    }

    /** The next day by turns and visits of its own, with what is given, told, fined and earned on it alone. */
    private static String tomorrow(Hatpitch x) {
        answer(x, y -> x.play());
        x.nextDay();
        int[] before = new int[ACTS];
        for (int act = 0; act < ACTS; act++) {
            before[act] = x.money(act);
            x.addTurn(act % 3, act);
            x.addVisit(act % 3, act < 3 ? 602 : 618);
        }
        int given = x.play();
        return given + " " + toldOf(x) + " " + finedOf(x) + " " + all(x, ACTS, act -> x.money(act) - before[act]);
    }

    private static void changes(String call, Supplier<Hatpitch> made, Edge.Ask accepted, String... due) {
        List<String> changed = new ArrayList<>();
        for (Map.Entry<String, Edge.Ask> look : LOOKS.entrySet()) {
            Hatpitch x = made.get();
            accepted.of(x);
            if (!answer(made.get(), look.getValue()).equals(answer(x, look.getValue()))) {
                changed.add(look.getKey());
            }
        }
        for (String name : due) {
            Expect.same("a look " + name, LOOKS.containsKey(name), true);
        }
        Edge.answers(call, made.get(), new TreeSet<>(Arrays.asList(due)), x -> new TreeSet<>(changed));
    }

    private static void unplayed(String call, Edge.Ask accepted, String... due) {
        changes(call + ", not played", FrameTest::roomy, accepted, due);
    }

    private static void played(String call, Edge.Ask accepted, String... due) {
        changes(call + ", played", FrameTest::roomyPlayed, accepted, due);
    }

    private static void pitchesAndActs() {
        unplayed("promise 2, addPitch: a fifth", x -> x.addPitch(21, 9, true), "pitches", "checksum", "turns by lots");
        played("promise 2, addPitch: a fifth", x -> x.addPitch(21, 9, true), "pitches", "checksum");
        unplayed("promise 3, setPassers: fewer", x -> x.setPassers(0, 10, 300), "passers", "today", "tomorrow");
        played("promise 3, setPassers: fewer", x -> x.setPassers(0, 10, 300), "passers", "tomorrow");
        unplayed("promise 3, setPassers: as many", x -> x.setPassers(0, 10, 600));
        unplayed("promise 5, addAct: a seventh", x -> x.addAct(60, 9, 9, 9, true),
                "acts", "orders", "next lots", "checksum", "mean");
        played("promise 5, addAct: a seventh", x -> x.addAct(60, 9, 9, 9, true),
                "acts", "orders", "next lots", "checksum", "mean");
        unplayed("promise 6, setLine: more", x -> x.setLine(0, 9), "lines", "checksum", "today", "tomorrow");
        played("promise 6, setLine: more", x -> x.setLine(0, 9), "lines", "checksum", "tomorrow");
        unplayed("promise 6, setLine: the same", x -> x.setLine(0, 2));
        unplayed("promise 7, setPermit: given", x -> x.setPermit(0, true), "permits", "today", "tomorrow");
        played("promise 7, setPermit: given", x -> x.setPermit(0, true), "permits", "tomorrow");
        unplayed("promise 7, setPermit: taken", x -> x.setPermit(4, false), "permits", "tomorrow");
        unplayed("promise 23, join: two more", x -> x.join(0, 1), "partners", "today", "tomorrow");
        played("promise 23, join: two more", x -> x.join(0, 1), "partners", "tomorrow");
        unplayed("promise 23, join: partners once more", x -> x.join(5, 2));
    }

    private static void customsAndLots() {
        unplayed("promise 8, addCustom: new", x -> x.addCustom(0, 1), "customs", "orders", "next lots", "exchanges");
        played("promise 8, addCustom: new", x -> x.addCustom(0, 1), "customs", "orders", "next lots");
        unplayed("promise 8, addCustom: known", x -> x.addCustom(5, 0));
        unplayed("promise 8, addCustom: one that follows from others", x -> x.addCustom(5, 3), "customs");
        unplayed("promise 9, endCustom: one", x -> x.endCustom(5, 0), "customs", "orders", "next lots");
        played("promise 9, endCustom: one", x -> x.endCustom(5, 0), "customs", "orders", "next lots");
        unplayed("promise 9, endCustom: none", x -> x.endCustom(0, 5));
        unplayed("promise 9, endCustom: one that follows from others", x -> x.endCustom(5, 3));
        unplayed("promise 12, drawLots: once more", x -> x.drawLots(),
                "lots", "z", "next lots", "checksum", "turns by lots");
        played("promise 12, drawLots: once more", x -> x.drawLots(), "lots", "z", "next lots", "checksum");
        unplayed("promise 14, seed: another one", x -> x.seed(77), "z", "next lots", "checksum");
        played("promise 14, seed: another one", x -> x.seed(77), "z", "next lots", "checksum");
    }

    private static void turns() {
        unplayed("promise 15, addTurn: one more", x -> x.addTurn(3, 3), "turns", "checksum", "today");
        unplayed("promise 16, turnsByLots: others", x -> x.turnsByLots(), "turns", "checksum", "exchanges", "today");
        unplayed("promise 17, exchange: two", x -> x.exchange(0, 0, 1), "turns", "today");
        unplayed("promise 17, exchange: one with itself", x -> x.exchange(0, 1, 1));
    }

    private static void settings() {
        unplayed("promise 19, setRain: longer", x -> x.setRain(603, 608), "rain", "today");
        played("promise 19, setRain: longer", x -> x.setRain(603, 608), "rain");
        unplayed("promise 20, setCold: colder", x -> x.setCold(40), "cold", "today", "tomorrow");
        played("promise 20, setCold: colder", x -> x.setCold(40), "cold", "tomorrow");
        unplayed("promise 21, setLaw: another limit", x -> x.setLaw(5, 9), "limit", "today", "tomorrow");
        played("promise 21, setLaw: another limit", x -> x.setLaw(5, 9), "limit", "tomorrow");
        unplayed("promise 21, setLaw: another distance", x -> x.setLaw(25, 0), "today", "tomorrow");
        played("promise 21, setLaw: another distance", x -> x.setLaw(25, 0), "tomorrow");
        unplayed("promise 22, addVisit: one more", x -> x.addVisit(0, 605), "one more visit", "today");
    }

    private static void days() {
        unplayed("promise 24, play: a day", x -> x.play(), "is played", "is over", "one more visit", "exchanges",
                "turns by lots", "told", "fined", "share", "money", "fines", "checksum", "mean", "today");
        played("promise 31, nextDay: the day is over", x -> x.nextDay(), "is played", "is over", "one more visit",
                "exchanges", "turns by lots", "turns", "told", "fined", "share", "rain", "diary", "checksum",
                "today");
    }

    /** What is only asked changes nothing. */
    private static void asks(boolean isPlayed) {
        Map<String, Edge.Ask> asked = new LinkedHashMap<>();
        asked.put("promise 4, passersAt", x -> x.passersAt(3, 659));
        asked.put("promise 10, orders", x -> x.orders());
        asked.put("promise 11, orderAt", x -> x.orderAt(100, 5));
        asked.put("promise 13, lotAt", x -> x.lotAt(5));
        asked.put("promise 18, turnAt", x -> isPlayed ? x.turnAt(1, 1) : x.turnAt(0, 0));
        asked.put("promise 29, money", x -> x.money(5));
        asked.put("promise 30, fines", x -> x.fines());
        asked.put("promise 32, diary", x -> x.diary(1));
        asked.put("promise 33, checksum", x -> x.checksum());
        asked.put("promise 35, meanMoney", x -> x.meanMoney());
        asked.put("promise 36, isSound", x -> x.isSound());
        if (isPlayed) {
            asked.put("promise 25, of", x -> x.of(0, 1, 'c'));
            asked.put("promise 26, isBroken", x -> x.isBroken(0, 1));
            asked.put("promise 27, fineAt", x -> x.fineAt(3));
            asked.put("promise 28, sumAt", x -> x.sumAt(3));
            asked.put("promise 34, goodShare", x -> x.goodShare());
        }
        Supplier<Hatpitch> made = isPlayed ? FrameTest::roomyPlayed : FrameTest::roomy;
        asked.forEach((call, ask) -> changes(call + ": only asked, " + (isPlayed ? "played" : "not played"), made, ask));
    }
}
