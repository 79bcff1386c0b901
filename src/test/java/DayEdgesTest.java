/** The boundary cases of promises 19 to 28: rain, cold, law, visits, partners, play, and what is told of the day. */
public final class DayEdgesTest {
    private DayEdgesTest() {
    }

    public static void main(String[] args) {
        setRain();
        setCold();
        setLaw();
        addVisit();
        addVisitInOrder();
        join();
        joinAll();
        play();
        of();
        ofInOrder();
        ofEachSign();
        isBroken();
        fineAt();
        sumAt();
        Edge.end("DayEdgesTest");
    }

    private static void setRain() {
        String p = "promise 19, setRain: ";
        Edge.range(p + "from", 600, 1199, Edge.ARGUMENT, Hatpitch::new, (x, n) -> x.setRain(n, 1199));
        Edge.range(p + "to", 600, 1199, Edge.ARGUMENT, Hatpitch::new, (x, n) -> x.setRain(600, n));
        Edge.range(p + "to, of the last minute,", 1199, 1199, Edge.ARGUMENT, Hatpitch::new,
                (x, n) -> x.setRain(1199, n));
        Edge.range(p + "to, of 700,", 700, 1199, Edge.ARGUMENT, Hatpitch::new, (x, n) -> x.setRain(700, n));
        Edge.refuses(p + "both one too small", new Hatpitch(), Edge.ARGUMENT, x -> x.setRain(599, 599));
        Edge.refuses(p + "both one too large", new Hatpitch(), Edge.ARGUMENT, x -> x.setRain(1200, 1200));
        Edge.answers(p + "no minutes before, at first", new Hatpitch(), 0, x -> x.setRain(600, 1199));
        Edge.answers(p + "all minutes before", new Hatpitch(), "0 600", x -> Edge.row(
                x.setRain(600, 1199), x.setRain(600, 600)));
        Edge.answers(p + "one minute before, the first and the last", new Hatpitch(), "0 1 1 2", x -> Edge.row(
                x.setRain(600, 600), x.setRain(1199, 1199), x.setRain(1198, 1199), x.setRain(600, 1199)));
        Edge.refuses(p + "refused behind rain, which stays", Streets.with(new Hatpitch(), x -> x.setRain(700, 710)),
                Edge.ARGUMENT, x -> x.setRain(710, 709));
        Edge.answers(p + "none before on the next day", new Hatpitch(), "600 0", x -> {
            x.setRain(600, 1199);
            x.play();
            int before = x.setRain(600, 600);
            x.nextDay();
            return Edge.row(before, x.setRain(600, 600));
        });
    }

    private static void setCold() {
        String p = "promise 20, setCold: ";
        Edge.range(p + "cold", 0, 40, Edge.ARGUMENT, Hatpitch::new, (x, n) -> x.setCold(n));
        Edge.answers(p + "0 before, at first", new Hatpitch(), 0, x -> x.setCold(40));
        Edge.answers(p + "the most and the least before", new Hatpitch(), "0 40 0", x -> Edge.row(
                x.setCold(40), x.setCold(0), x.setCold(0)));
        Edge.answers(p + "it stays on the next day", Streets.with(new Hatpitch(), x -> {
            x.setCold(40);
            x.play();
            x.nextDay();
        }), 40, x -> x.setCold(0));
    }

    private static void setLaw() {
        String p = "promise 21, setLaw: ";
        Edge.range(p + "limit", 0, 99, Edge.ARGUMENT, Hatpitch::new, (x, n) -> x.setLaw(n, 0));
        Edge.range(p + "distance", 0, 99, Edge.ARGUMENT, Hatpitch::new, (x, n) -> x.setLaw(0, n));
        Edge.refuses(p + "both out of range", new Hatpitch(), Edge.ARGUMENT, x -> x.setLaw(-1, 100));
        Edge.answers(p + "99 before, at first", new Hatpitch(), 99, x -> x.setLaw(0, 0));
        Edge.answers(p + "the least and the most limit before", new Hatpitch(), "99 0 99", x -> Edge.row(
                x.setLaw(0, 99), x.setLaw(99, 0), x.setLaw(5, 5)));
        Edge.answers(p + "it stays on the next day", Streets.with(new Hatpitch(), x -> {
            x.setLaw(0, 99);
            x.play();
            x.nextDay();
        }), 0, x -> x.setLaw(99, 0));
    }

    private static void addVisit() {
        String p = "promise 22, addVisit: ";
        Edge.range(p + "pitch", 0, 5, Edge.INDEX, () -> Streets.of(6, 0), (x, n) -> x.addVisit(n, 600));
        Edge.range(p + "minute", 600, 1199, Edge.ARGUMENT, () -> Streets.of(1, 0), (x, n) -> x.addVisit(0, n));
        Edge.refuses(p + "without pitches", Streets.of(0, 0), Edge.INDEX, x -> x.addVisit(0, 600));
        Edge.refuses(p + "one beyond the only pitch", Streets.of(1, 0), Edge.INDEX, x -> x.addVisit(1, 600));
        Edge.answers(p + "the first one", visits(0), 1, x -> x.addVisit(0, 600));
        Edge.answers(p + "the sixth", visits(5), 6, x -> x.addVisit(0, 600));
        Edge.refuses(p + "a seventh", visits(6), Edge.STATE, x -> x.addVisit(0, 600));
        Edge.refuses(p + "a seventh, to another pitch", Streets.with(visits(6), x -> x.addPitch(99, 0, false)),
                Edge.STATE, x -> x.addVisit(1, 1199));
        Edge.refuses(p + "the day was played", Streets.played(visits(0)), Edge.STATE, x -> x.addVisit(0, 600));
        Edge.refuses(p + "the day was played, and a seventh", Streets.played(visits(6)), Edge.STATE,
                x -> x.addVisit(0, 600));
        Edge.answers(p + "the first one of the next day", Streets.with(Streets.played(visits(6)), x -> x.nextDay()),
                1, x -> x.addVisit(0, 600));
    }

    private static void addVisitInOrder() {
        String p = "promise 22, addVisit: ";
        Edge.refuses(p + "no pitch ahead of no minute", visits(0), Edge.INDEX, x -> x.addVisit(1, 599));
        Edge.refuses(p + "no pitch ahead of a seventh", visits(6), Edge.INDEX, x -> x.addVisit(-1, 600));
        Edge.refuses(p + "no pitch ahead of a day played", Streets.played(visits(0)), Edge.INDEX,
                x -> x.addVisit(1, 600));
        Edge.refuses(p + "no minute ahead of a seventh", visits(6), Edge.ARGUMENT, x -> x.addVisit(0, 1200));
        Edge.refuses(p + "no minute ahead of a day played", Streets.played(visits(0)), Edge.ARGUMENT,
                x -> x.addVisit(0, 599));
    }

    private static Hatpitch visits(int visits) {
        Hatpitch x = Streets.of(1, 0);
        for (int visit = 0; visit < visits; visit++) {
            x.addVisit(0, 1199);
        }
        return x;
    }

    private static void join() {
        String p = "promise 23, join: ";
        Edge.range(p + "act", 0, 6, Edge.INDEX, () -> Streets.of(0, 7), (x, n) -> x.join(n, n == 0 ? 1 : 0));
        Edge.range(p + "other", 0, 6, Edge.INDEX, () -> Streets.of(0, 7), (x, n) -> x.join(n == 0 ? 1 : 0, n));
        Edge.refuses(p + "without acts", Streets.of(0, 0), Edge.INDEX, x -> x.join(0, 0));
        Edge.refuses(p + "no act ahead of both the same", Streets.of(0, 1), Edge.INDEX, x -> x.join(1, 1));
        Edge.refuses(p + "below 0 ahead of both the same", Streets.of(0, 1), Edge.INDEX, x -> x.join(-1, -1));
        Edge.refuses(p + "the first with itself", Streets.of(0, 8), Edge.ARGUMENT, x -> x.join(0, 0));
        Edge.refuses(p + "the last with itself", Streets.of(0, 8), Edge.ARGUMENT, x -> x.join(7, 7));
        Edge.refuses(p + "a partner with itself", Streets.with(Streets.of(0, 2), x -> x.join(0, 1)), Edge.ARGUMENT,
                x -> x.join(1, 1));
        Edge.answers(p + "two, both counted", Streets.of(0, 8), "2 2", x -> Edge.row(x.join(0, 7), x.join(3, 2)));
        Edge.answers(p + "partners already", Streets.of(0, 3), "2 2 2", x -> Edge.row(
                x.join(0, 1), x.join(0, 1), x.join(1, 0)));
    }

    private static void joinAll() {
        String p = "promise 23, join: ";
        Edge.answers(p + "all eight, one by one", Streets.of(0, 8), "2 3 4 5 6 7 8", x -> Edge.row(
                x.join(0, 1), x.join(1, 2), x.join(2, 3), x.join(3, 4), x.join(4, 5), x.join(5, 6), x.join(6, 7)));
        Edge.answers(p + "all eight, by twos and fours", Streets.of(0, 8), "2 2 2 2 4 4 8 8", x -> Edge.row(
                x.join(0, 7), x.join(1, 6), x.join(2, 5), x.join(3, 4), x.join(7, 1), x.join(5, 3), x.join(6, 4),
                x.join(0, 3)));
        Edge.answers(p + "an act added later stands alone at first", Streets.with(Streets.of(0, 2), x -> {
            x.join(0, 1);
            x.addAct(5, 0, 1, 1, false);
            x.addAct(5, 0, 1, 1, false);
        }), "2 4", x -> Edge.row(x.join(2, 3), x.join(3, 1)));
    }

    private static void play() {
        String p = "promise 24, play: ";
        Edge.answers(p + "an empty street", new Hatpitch(), 0, x -> x.play());
        Edge.answers(p + "pitches without turns", Streets.of(6, 8), 0, x -> x.play());
        Edge.answers(p + "a turn without passers", Streets.turns(1), 0, x -> x.play());
        Edge.refuses(p + "the day was played", Streets.played(new Hatpitch()), Edge.STATE, x -> x.play());
        Edge.refuses(p + "the day with turns was played", Streets.played(Streets.crowd(5, 9, 1)), Edge.STATE,
                x -> x.play());
        Edge.answers(p + "the next day, without turns", Streets.with(Streets.played(Streets.crowd(5, 9, 1)),
                x -> x.nextDay()), 0, x -> x.play());
        Edge.answers(p + "what was given on this day alone", Streets.crowd(5, 9, 1), "500 1 1 500", x -> Edge.row(
                x.play(), x.nextDay(), x.addTurn(0, 0), x.play()));
        Edge.answers(p + "six pitches with eight turns each", fullest(), 48 * 500, x -> x.play());
    }

    /** 48 turns of five minutes, each of which gives 500. */
    private static Hatpitch fullest() {
        Hatpitch x = new Hatpitch();
        for (int pitch = 0; pitch < 6; pitch++) {
            x.addPitch(19 * pitch, 0, false);
            x.setPassers(pitch, 10, 600);
            x.setPassers(pitch, 11, 600);
            x.addAct(5, 0, 9, 1, false);
            for (int turn = 0; turn < 8; turn++) {
                x.addTurn(pitch, pitch);
            }
        }
        return x;
    }

    private static Hatpitch playedCrowd() {
        return Streets.played(Streets.crowd(5, 9, 1));
    }

    private static void of() {
        String p = "promise 25, of: ";
        Edge.range(p + "pitch", 0, 0, Edge.INDEX, DayEdgesTest::playedCrowd, (x, n) -> x.of(n, 0, 'b'));
        Edge.range(p + "turn", 0, 7, Edge.NONE, () -> Streets.played(Streets.turns(8)), (x, n) -> x.of(0, n, 'e'));
        Edge.range(p + "the only turn", 0, 0, Edge.NONE, DayEdgesTest::playedCrowd, (x, n) -> x.of(0, n, 's'));
        Edge.refuses(p + "without pitches", Streets.played(new Hatpitch()), Edge.INDEX, x -> x.of(0, 0, 'b'));
        Edge.refuses(p + "not played", Streets.crowd(5, 9, 1), Edge.STATE, x -> x.of(0, 0, 'b'));
        Edge.refuses(p + "not played on the next day", Streets.with(playedCrowd(), x -> x.nextDay()), Edge.STATE,
                x -> x.of(0, 0, 'b'));
        Edge.refuses(p + "a pitch without turns", Streets.played(Streets.of(1, 1)), Edge.NONE, x -> x.of(0, 0, 'b'));
        Edge.refuses(p + "a pitch added behind the day", Streets.with(playedCrowd(), x -> x.addPitch(0, 0, false)),
                Edge.NONE, x -> x.of(1, 0, 'b'));
        Edge.answers(p + "all that is told of a turn", playedCrowd(), "600 604 51 51 500 0", x -> Edge.row(
                x.of(0, 0, 'b'), x.of(0, 0, 'e'), x.of(0, 0, 'm'), x.of(0, 0, 's'), x.of(0, 0, 'c'), x.of(0, 0, 'd')));
        Edge.answers(p + "all that is told of a turn without passers", Streets.played(Streets.turns(1)),
                "600 604 0 0 0 0", x -> Edge.row(x.of(0, 0, 'b'), x.of(0, 0, 'e'), x.of(0, 0, 'm'), x.of(0, 0, 's'),
                        x.of(0, 0, 'c'), x.of(0, 0, 'd')));
    }

    private static void ofInOrder() {
        String p = "promise 25, of: ";
        Edge.refuses(p + "no pitch ahead of no such thing", playedCrowd(), Edge.INDEX, x -> x.of(1, 0, 'q'));
        Edge.refuses(p + "no pitch ahead of a day not played", Streets.crowd(5, 9, 1), Edge.INDEX,
                x -> x.of(1, 0, 'b'));
        Edge.refuses(p + "no pitch ahead of no turn", playedCrowd(), Edge.INDEX, x -> x.of(-1, 1, 'b'));
        Edge.refuses(p + "no such thing ahead of a day not played", Streets.crowd(5, 9, 1), Edge.ARGUMENT,
                x -> x.of(0, 0, 'q'));
        Edge.refuses(p + "no such thing ahead of no turn", playedCrowd(), Edge.ARGUMENT, x -> x.of(0, 1, 'q'));
        Edge.refuses(p + "a day not played ahead of no turn", Streets.crowd(5, 9, 1), Edge.STATE,
                x -> x.of(0, 1, 'b'));
        Edge.refuses(p + "a day not played ahead of a turn below 0", Streets.crowd(5, 9, 1), Edge.STATE,
                x -> x.of(0, -1, 'b'));
    }

    private static void ofEachSign() {
        String p = "promise 25, of: ";
        for (char what : "bemscd".toCharArray()) {
            Edge.range(p + "'" + what + "' of turn", 0, 0, Edge.NONE, DayEdgesTest::playedCrowd,
                    (x, n) -> x.of(0, n, what));
            refusesThing(p, (char) (what - 32));
            refusesThing(p, (char) (what + 256));
            refusesThing(p, (char) (what - 1));
        }
        for (char what : new char[] {0, ' ', 'f', 'n', 't', '-', 127, 255, 65535}) {
            refusesThing(p, what);
        }
        Edge.answers(p + "six of all signs are taken", playedCrowd(), 6, x -> {
            int taken = 0;
            for (int sign = 0; sign <= 65535; sign++) {
                taken += isTaken(x, (char) sign) ? 1 : 0;
            }
            return taken;
        });
    }

    private static void refusesThing(String p, char what) {
        if ("bemscd".indexOf(what) < 0) {
            Edge.refuses(p + "the sign " + (int) what, playedCrowd(), Edge.ARGUMENT, x -> x.of(0, 0, what));
        }
    }

    private static boolean isTaken(Hatpitch x, char what) {
        try {
            x.of(0, 0, what);
            return true;
        } catch (IllegalArgumentException e) {
            return false;
        }
    }

    private static void isBroken() {
        String p = "promise 26, isBroken: ";
        Edge.range(p + "pitch", 0, 0, Edge.INDEX, DayEdgesTest::playedCrowd, (x, n) -> x.isBroken(n, 0));
        Edge.range(p + "turn", 0, 7, Edge.NONE, () -> Streets.played(Streets.turns(8)), (x, n) -> x.isBroken(0, n));
        Edge.refuses(p + "without pitches", Streets.played(new Hatpitch()), Edge.INDEX, x -> x.isBroken(0, 0));
        Edge.refuses(p + "not played", Streets.crowd(5, 9, 1), Edge.STATE, x -> x.isBroken(0, 0));
        Edge.refuses(p + "not played on the next day", Streets.with(playedCrowd(), x -> x.nextDay()), Edge.STATE,
                x -> x.isBroken(0, 0));
        Edge.refuses(p + "a pitch without turns", Streets.played(Streets.of(1, 1)), Edge.NONE, x -> x.isBroken(0, 0));
        Edge.refuses(p + "no pitch ahead of a day not played", Streets.crowd(5, 9, 1), Edge.INDEX,
                x -> x.isBroken(1, 0));
        Edge.refuses(p + "no pitch ahead of no turn", playedCrowd(), Edge.INDEX, x -> x.isBroken(-1, 1));
        Edge.refuses(p + "a day not played ahead of no turn", Streets.crowd(5, 9, 1), Edge.STATE,
                x -> x.isBroken(0, 1));
    }

    /** A fire act plays till 604; of six visits only those of 600 and 604 meet it. */
    private static Hatpitch sixVisits() {
        Hatpitch x = Streets.of(1, 0);
        x.addTurn(0, x.addAct(5, 0, 1, 1, true));
        for (int minute : new int[] {600, 605, 1199, 604, 606, 609}) {
            x.addVisit(0, minute);
        }
        return x;
    }

    private static void fineAt() {
        String p = "promise 27, fineAt: ";
        Edge.range(p + "visit", 0, 5, Edge.NONE, () -> Streets.played(sixVisits()), (x, n) -> x.fineAt(n));
        Edge.range(p + "the only visit", 0, 0, Edge.NONE, () -> Streets.played(visits(1)), (x, n) -> x.fineAt(n));
        Edge.refuses(p + "without visits", Streets.played(visits(0)), Edge.NONE, x -> x.fineAt(0));
        Edge.refuses(p + "not played", sixVisits(), Edge.STATE, x -> x.fineAt(0));
        Edge.refuses(p + "a day not played ahead of no visit", sixVisits(), Edge.STATE, x -> x.fineAt(6));
        Edge.refuses(p + "a day not played ahead of a visit below 0", sixVisits(), Edge.STATE, x -> x.fineAt(-1));
        Edge.refuses(p + "not played on the next day", Streets.with(Streets.played(sixVisits()), x -> x.nextDay()),
                Edge.STATE, x -> x.fineAt(0));
        Edge.refuses(p + "no visit of the day before", Streets.with(Streets.played(sixVisits()), x -> {
            x.nextDay();
            x.play();
        }), Edge.NONE, x -> x.fineAt(0));
        Edge.answers(p + "as they were told, not as they came", Streets.played(sixVisits()), "f - - f - -",
                x -> Edge.row(x.fineAt(0), x.fineAt(1), x.fineAt(2), x.fineAt(3), x.fineAt(4), x.fineAt(5)));
    }

    private static void sumAt() {
        String p = "promise 28, sumAt: ";
        Edge.range(p + "visit", 0, 5, Edge.NONE, () -> Streets.played(sixVisits()), (x, n) -> x.sumAt(n));
        Edge.range(p + "the only visit", 0, 0, Edge.NONE, () -> Streets.played(visits(1)), (x, n) -> x.sumAt(n));
        Edge.refuses(p + "without visits", Streets.played(visits(0)), Edge.NONE, x -> x.sumAt(0));
        Edge.refuses(p + "not played", sixVisits(), Edge.STATE, x -> x.sumAt(0));
        Edge.refuses(p + "a day not played ahead of no visit", sixVisits(), Edge.STATE, x -> x.sumAt(6));
        Edge.refuses(p + "a day not played ahead of a visit below 0", sixVisits(), Edge.STATE, x -> x.sumAt(-1));
        Edge.refuses(p + "not played on the next day", Streets.with(Streets.played(sixVisits()), x -> x.nextDay()),
                Edge.STATE, x -> x.sumAt(0));
        Edge.refuses(p + "no visit of the day before", Streets.with(Streets.played(sixVisits()), x -> {
            x.nextDay();
            x.play();
        }), Edge.NONE, x -> x.sumAt(0));
        Edge.answers(p + "as they were told, not as they came", Streets.played(sixVisits()), "20 0 0 20 0 0",
                x -> Edge.row(x.sumAt(0), x.sumAt(1), x.sumAt(2), x.sumAt(3), x.sumAt(4), x.sumAt(5)));
    }
}
