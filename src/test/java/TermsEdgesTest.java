/** The boundary cases of the document's terms: the day minute by minute, hats, shares, constables; by hand. */
public final class TermsEdgesTest {
    private TermsEdgesTest() {
    }

    public static void main(String[] args) {
        turns();
        hearing();
        hearingOfOthers();
        stopping();
        stoppingDrownedOrWet();
        going();
        goingAll();
        circles();
        circlesThatHold();
        hats();
        hatsInRain();
        shares();
        rain();
        visits();
        fire();
        noise();
        distance();
        distanceOfWhoPlays();
        allFines();
        partners();
        Edge.end("TermsEdgesTest");
    }

    private static String times(Hatpitch x, int pitch, int turns) {
        Object[] found = new Object[turns];
        for (int turn = 0; turn < turns; turn++) {
            found[turn] = x.of(pitch, turn, 'b') + "-" + x.of(pitch, turn, 'e');
        }
        return Edge.row(found);
    }

    private static void turns() {
        String t = "terms, turns: ";
        Edge.answers(t + "the first begins with 600, on the sixth pitch too", Streets.with(Streets.of(6, 1), x -> {
            x.addTurn(5, 0);
            x.play();
        }), "600-604", x -> times(x, 5, 1));
        Edge.answers(t + "five minutes lie between two", Streets.played(Streets.turns(3)), "600-604 610-614 620-624",
                x -> times(x, 0, 3));
        Edge.answers(t + "eight of the longest are over with 1114", Streets.with(Streets.of(1, 0), x -> {
            x.addAct(60, 0, 1, 1, false);
            for (int turn = 0; turn < 8; turn++) {
                x.addTurn(0, 0);
            }
            x.play();
        }), "600-659 665-724 730-789 795-854 860-919 925-984 990-1049 1055-1114", x -> times(x, 0, 8));
        Edge.answers(t + "five minutes lie behind a circle that broke", Streets.with(Streets.crowd(60, 9, 1), x -> {
            x.addTurn(0, 0);
            x.setRain(604, 608);
            x.play();
        }), "600-608 614-673", x -> times(x, 0, 2));
        Edge.answers(t + "each pitch has its own", Streets.with(Streets.of(2, 2), x -> {
            x.addAct(60, 0, 1, 1, false);
            x.addTurn(0, 2);
            x.addTurn(0, 0);
            x.addTurn(1, 1);
            x.addTurn(1, 1);
            x.play();
        }), "600-659 665-669, 600-604 610-614", x -> times(x, 0, 2) + ", " + times(x, 1, 2));
        Edge.answers(t + "nobody stands at the beginning of the next one", Streets.with(Streets.crowd(5, 9, 1), x -> {
            x.addTurn(0, 0);
            x.play();
        }), "51 51 51 51", x -> Edge.row(x.of(0, 0, 's'), x.of(0, 1, 's'), x.of(0, 0, 'm'), x.of(0, 1, 'm')));
    }

    /** An act of ten minutes at yard 50 with echo 9, another one of five minutes elsewhere: how long it is drowned. */
    private static int drowned(int loudness, int yard, int echo, int otherLoudness) {
        Hatpitch x = new Hatpitch();
        x.addPitch(50, 9, false);
        x.addPitch(yard, echo, false);
        x.addTurn(0, x.addAct(10, loudness, 1, 1, false));
        x.addTurn(1, x.addAct(5, otherLoudness, 1, 1, false));
        x.play();
        return x.of(0, 0, 'd');
    }

    private static void hearing() {
        String t = "terms, hearing: ";
        Edge.answers(t + "more than 0 drowns the silent", new Hatpitch(), "5 5", x -> Edge.row(
                drowned(0, 41, 0, 1), drowned(0, 59, 0, 1)));
        Edge.answers(t + "just 0 does not, and an echo here does nothing", new Hatpitch(), "0 0", x -> Edge.row(
                drowned(0, 40, 0, 1), drowned(0, 60, 0, 1)));
        Edge.answers(t + "an echo there counts", new Hatpitch(), "5 0", x -> Edge.row(
                drowned(2, 58, 9, 2), drowned(2, 59, 9, 2)));
        Edge.answers(t + "an echo alone drowns the silent", new Hatpitch(), "5 0", x -> Edge.row(
                drowned(0, 58, 9, 0), drowned(0, 59, 9, 0)));
        Edge.answers(t + "the loudest drown the loudest by an echo alone", new Hatpitch(), "5 0 0", x -> Edge.row(
                drowned(9, 42, 9, 9), drowned(9, 41, 9, 9), drowned(9, 51, 0, 9)));
        Edge.answers(t + "the loudest, 98 and 99 yards away", new Hatpitch(), "5 0", x -> Edge.row(
                fromAfar(98), fromAfar(99)));
        Edge.answers(t + "its own noise and echo do not drown it", Streets.with(new Hatpitch(), x -> {
            x.addPitch(0, 9, false);
            x.addTurn(0, x.addAct(5, 9, 1, 1, false));
            x.play();
        }), 0, x -> x.of(0, 0, 'd'));
    }

    private static int fromAfar(int yard) {
        Hatpitch x = new Hatpitch();
        x.addPitch(yard, 9, false);
        x.addPitch(0, 0, false);
        x.addTurn(0, x.addAct(5, 9, 1, 1, false));
        x.addTurn(1, x.addAct(5, 0, 1, 1, false));
        x.play();
        return x.of(1, 0, 'd');
    }

    /** A silent act of 20 minutes at yard 50, and others of five minutes at yards around it. */
    private static Hatpitch among(int loudness, int... yards) {
        Hatpitch x = new Hatpitch();
        x.addPitch(50, 0, false);
        x.addTurn(0, x.addAct(20, 0, 1, 1, false));
        for (int yard : yards) {
            x.addTurn(x.addPitch(yard, 0, false), x.addAct(5, loudness, 1, 1, false));
        }
        return x;
    }

    private static void hearingOfOthers() {
        String t = "terms, hearing: ";
        Edge.answers(t + "two at the bound do not add up", Streets.played(among(1, 40, 60)), 0,
                x -> x.of(0, 0, 'd'));
        Edge.answers(t + "the first of five is enough", Streets.played(among(1, 41, 1, 2, 98, 99)), 5,
                x -> x.of(0, 0, 'd'));
        Edge.answers(t + "the last of five is enough", Streets.played(among(1, 1, 2, 98, 99, 59)), 5,
                x -> x.of(0, 0, 'd'));
        Edge.answers(t + "two in one minute drown it once", Streets.played(among(1, 41, 59)), 5,
                x -> x.of(0, 0, 'd'));
        Edge.answers(t + "nobody is heard between two turns", Streets.with(among(1, 41), x -> {
            x.addTurn(1, 1);
            x.play();
        }), 10, x -> x.of(0, 0, 'd'));
        Edge.answers(t + "a pitch without turns is not heard", Streets.with(among(1), x -> {
            x.addPitch(49, 9, false);
            x.play();
        }), 0, x -> x.of(0, 0, 'd'));
        for (int loud = 0; loud < 2; loud++) {
            int pitch = loud;
            Edge.answers(t + "pitch " + loud + " is heard in the minute in which its circle breaks",
                    Streets.played(breaking(loud)), "604 5",
                    x -> Edge.row(x.of(pitch, 0, 'e'), x.of(1 - pitch, 0, 'd')));
        }
    }

    /** Ten stand at 601, rain comes with 602, and the circle of the loud pitch breaks with 604. */
    private static Hatpitch breaking(int loud) {
        Hatpitch x = new Hatpitch();
        x.addPitch(10, 0, false);
        x.addPitch(11, 0, false);
        x.setPassers(loud, 10, 600);
        x.addTurn(loud, x.addAct(30, 9, 5, 1, false));
        x.addTurn(1 - loud, x.addAct(30, 0, 1, 1, false));
        x.setRain(602, 700);
        return x;
    }

    private static int stood(Hatpitch x) {
        x.play();
        return x.of(0, 0, 's');
    }

    private static Hatpitch passed(int passers, int minutes, int skill) {
        return Streets.with(Streets.crowd(minutes, skill, 1), x -> x.setPassers(0, 10, passers));
    }

    private static void stopping() {
        String t = "terms, circles: ";
        Edge.answers(t + "90 hundredths stop: nobody", passed(540, 60, 1), 0, x -> stood(x));
        Edge.answers(t + "99 hundredths stop: nobody", passed(90, 19, 9), 9, x -> stood(x));
        Edge.answers(t + "100 hundredths stop: one", passed(90, 21, 9), 11, x -> stood(x));
        Edge.answers(t + "nobody passes, nobody stops", passed(0, 60, 9), 0, x -> stood(x));
        Edge.answers(t + "39 draw 39", Streets.crowd(5, 9, 1), 51, x -> stood(x));
        Edge.answers(t + "40 at most draw 40", Streets.crowd(6, 9, 1), 64, x -> stood(x));
        Edge.answers(t + "more than 40 draw as 40 do", passed(540, 8, 7), 62, x -> stood(x));
        Edge.answers(t + "many more than 40 draw as 40 do", passed(540, 10, 7), 80, x -> stood(x));
        Edge.answers(t + "the most skilled in the longest turn", Streets.crowd(60, 9, 1), 51 + 55 * 13, x -> stood(x));
    }

    /** The act of pitch 0 is drowned all the time by a loud one next to it. */
    private static Hatpitch nextToNoise(int minutes, int skill, boolean isShaded) {
        Hatpitch x = Streets.crowd(isShaded);
        x.addTurn(0, x.addAct(minutes, 0, skill, 1, false));
        x.addTurn(x.addPitch(49, 0, false), x.addAct(60, 9, 1, 1, false));
        return x;
    }

    private static void stoppingDrownedOrWet() {
        String t = "terms, circles: ";
        Edge.answers(t + "half of one that would stop: nobody", nextToNoise(5, 1, false), 0, x -> stood(x));
        Edge.answers(t + "half of two that would stop: one", nextToNoise(5, 2, false), 5, x -> stood(x));
        Edge.answers(t + "half of nine that would stop: four", nextToNoise(5, 9, false), 20, x -> stood(x));
        Edge.answers(t + "in rain nobody stops", Streets.with(Streets.crowd(5, 9, 1), x -> x.setRain(600, 604)), 0,
                x -> stood(x));
        Edge.answers(t + "in rain they stop in the shade", Streets.with(Streets.crowd(true), x -> {
            x.addTurn(0, x.addAct(5, 0, 9, 1, false));
            x.setRain(600, 604);
        }), 51, x -> stood(x));
        Edge.answers(t + "in rain half of them stop in the shade, drowned", Streets.with(nextToNoise(5, 9, true),
                x -> x.setRain(600, 604)), 20, x -> stood(x));
    }

    private static Hatpitch cold(int cold, int minutes, int skill) {
        return Streets.with(Streets.crowd(minutes, skill, 1), x -> x.setCold(cold));
    }

    private static void going() {
        String t = "terms, circles: ";
        Edge.answers(t + "without cold nobody goes", cold(0, 5, 1), 5, x -> stood(x));
        Edge.answers(t + "96 hundredths go: nobody", cold(24, 5, 1), 5, x -> stood(x));
        Edge.answers(t + "100 hundredths go: one", cold(25, 5, 1), 4, x -> stood(x));
        Edge.answers(t + "those go who stood there ahead of the minute", cold(40, 5, 9), 25, x -> stood(x));
        Edge.answers(t + "in rain half of them go, cut", Streets.with(Streets.crowd(5, 9, 1),
                x -> x.setRain(604, 604)), 39 - 19, x -> stood(x));
        Edge.answers(t + "in rain nobody goes in the shade but by cold", Streets.with(Streets.crowd(true), x -> {
            x.addTurn(0, x.addAct(5, 0, 9, 1, false));
            x.setRain(600, 604);
            x.setCold(40);
        }), 25, x -> stood(x));
        Edge.answers(t + "drowned, a tenth of nine go: nobody", nextToNoise(10, 3, false), 9 + 1, x -> stood(x));
        Edge.answers(t + "drowned, a tenth of ten go: one", nextToNoise(11, 3, false), 10 + 2 - 1, x -> stood(x));
    }

    private static void goingAll() {
        String t = "terms, circles: ";
        Edge.answers(t + "by cold, rain and noise at once all go", Streets.with(nextToNoise(5, 9, false), x -> {
            x.setCold(40);
            x.setRain(604, 604);
        }), "0 8", x -> Edge.row(stood(x), x.of(0, 0, 'm')));
        Edge.answers(t + "by 99 in a hundred one of nine stays", Streets.with(nextToNoise(5, 9, false), x -> {
            x.setCold(39);
            x.setRain(604, 604);
        }), "1 9", x -> Edge.row(stood(x), x.of(0, 0, 'm')));
    }

    private static String told(Hatpitch x) {
        x.play();
        return Edge.row(x.of(0, 0, 'e'), x.of(0, 0, 'm'), x.of(0, 0, 's'), x.of(0, 0, 'c'), x.isBroken(0, 0));
    }

    private static Hatpitch wet(int minutes, int skill, int from, int to) {
        return Streets.with(Streets.crowd(minutes, skill, 1), x -> x.setRain(from, to));
    }

    private static void circles() {
        String t = "terms, circles: ";
        Edge.answers(t + "ten stood, two stand: it breaks, in its last minute too", wet(5, 5, 602, 604),
                "604 10 2 0 true", x -> told(x));
        Edge.answers(t + "it breaks ahead of its last minute", wet(30, 9, 604, 610), "608 39 2 0 true", x -> told(x));
        Edge.answers(t + "it breaks in the minute ahead of its last", wet(10, 9, 604, 610), "608 39 2 0 true",
                x -> told(x));
        Edge.answers(t + "it breaks in its last minute, and nothing is given", wet(9, 9, 604, 610), 0, x -> x.play());
        Edge.answers(t + "the minute in which it breaks counts as drowned", Streets.with(nextToNoise(30, 9, false),
                x -> x.setRain(603, 700)), "604 12 2 0 true 5", x -> Edge.row(told(x), x.of(0, 0, 'd')));
        Edge.answers(t + "nothing of a broken one is shared", Streets.with(wet(9, 9, 604, 610), x -> {
            x.addAct(5, 0, 1, 1, false);
            x.join(0, 1);
            x.play();
        }), "0 0", x -> Edge.row(x.money(0), x.money(1)));
    }

    private static void circlesThatHold() {
        String t = "terms, circles: ";
        Edge.answers(t + "nine stood, one stands: it holds", wet(5, 9, 601, 604), "604 9 1 5 false", x -> told(x));
        Edge.answers(t + "ten stood, three stand: it holds", wet(8, 9, 604, 610), "607 39 3 15 false", x -> told(x));
        Edge.answers(t + "nobody ever stood: it holds", passed(0, 60, 9), "659 0 0 0 false", x -> told(x));
        Edge.answers(t + "two stand before ten ever stood: it holds", Streets.crowd(12, 1, 1), "611 14 14 28 false",
                x -> told(x));
        Edge.answers(t + "ten stood in the turn ahead, nobody in this one: it holds", Streets.with(
                Streets.crowd(5, 9, 1), x -> {
                    x.addTurn(0, 0);
                    x.setRain(610, 614);
                    x.play();
                }), "614 0 0 0 false", x -> Edge.row(x.of(0, 1, 'e'), x.of(0, 1, 'm'), x.of(0, 1, 's'),
                        x.of(0, 1, 'c'), x.isBroken(0, 1)));
    }

    private static void hats() {
        String t = "terms, hats: ";
        Edge.answers(t + "the least: five give two pence each", Streets.crowd(5, 1, 1), 5 * 2, x -> x.play());
        Edge.answers(t + "the most: 13 of 51 go, the others give 18 pence each", Streets.crowd(5, 9, 9), 38 * 18,
                x -> x.play());
        Edge.answers(t + "96 hundredths go: nobody", Streets.crowd(5, 3, 2), 16 * 5, x -> x.play());
        Edge.answers(t + "99 hundredths go: nobody", Streets.with(Streets.crowd(21, 9, 3),
                x -> x.setPassers(0, 10, 90)), 11 * 12, x -> x.play());
        Edge.answers(t + "300 hundredths go: three", Streets.with(Streets.crowd(5, 9, 4), x -> x.setCold(40)), 22 * 13,
                x -> x.play());
        Edge.answers(t + "102 hundredths go: one", Streets.crowd(5, 6, 1), 33 * 7, x -> x.play());
        Edge.answers(t + "90 hundredths go: nobody", Streets.crowd(5, 1, 6), 5 * 7, x -> x.play());
        Edge.answers(t + "108 hundredths go: one", Streets.crowd(6, 1, 6), 5 * 7, x -> x.play());
        Edge.answers(t + "nobody stands, nothing is given", passed(0, 5, 9), 0, x -> x.play());
        Edge.answers(t + "those who stood are told ahead of the hat", Streets.crowd(5, 9, 9), 51, x -> stood(x));
        Edge.answers(t + "a line told behind the turn counts", Streets.with(Streets.crowd(5, 9, 9),
                x -> x.setLine(0, 1)), 500, x -> x.play());
        Edge.answers(t + "a line told behind the day changes nothing", Streets.with(Streets.crowd(5, 9, 9), x -> {
            x.play();
            x.setLine(0, 1);
        }), 38 * 18, x -> x.of(0, 0, 'c'));
    }

    private static void hatsInRain() {
        String t = "terms, hats: ";
        Edge.answers(t + "rain in the last minute alone: half", wet(5, 9, 604, 604), 20 * 10 / 2, x -> x.play());
        Edge.answers(t + "rain in the last minute, shaded: half of 405, cut", Streets.with(Streets.crowd(true), x -> {
            x.addTurn(0, x.addAct(5, 0, 8, 1, false));
            x.setRain(604, 604);
        }), 202, x -> x.play());
        Edge.answers(t + "rain that ends a minute ahead: all", wet(5, 9, 600, 603), 9 * 10, x -> x.play());
        Edge.answers(t + "rain that begins a minute behind: all", wet(5, 9, 605, 605), 500, x -> x.play());
        Edge.answers(t + "two pence in rain: one", wet(5, 1, 601, 604), 1, x -> x.play());
    }

    private static Hatpitch shared(Hatpitch x, int partners) {
        for (int act = 1; act < partners; act++) {
            x.addAct(5, 0, 1, 1, false);
            x.join(act, 0);
        }
        x.play();
        return x;
    }

    private static void shares() {
        String t = "terms, shares: ";
        Edge.answers(t + "no partner: all", shared(Streets.crowd(5, 1, 1), 1), 10, x -> x.money(0));
        Edge.answers(t + "ten pence of two leave no rest", shared(Streets.crowd(5, 1, 1), 2), "5 5", x -> Edge.row(
                x.money(0), x.money(1)));
        Edge.answers(t + "ten pence of eight leave two more for the act", shared(Streets.crowd(5, 1, 1), 8), "3 1 1",
                x -> Edge.row(x.money(0), x.money(1), x.money(7)));
        Edge.answers(t + "one penny of eight is the act's", shared(wet(5, 1, 601, 604), 8), "1 0 0", x -> Edge.row(
                x.money(0), x.money(1), x.money(7)));
        Edge.answers(t + "nothing is shared of nothing", shared(passed(0, 5, 1), 8), "0 0", x -> Edge.row(
                x.money(0), x.money(7)));
        Edge.answers(t + "partners told behind the day get nothing of it", Streets.with(Streets.crowd(5, 1, 1), x -> {
            x.play();
            x.join(0, x.addAct(5, 0, 1, 1, false));
        }), "10 0", x -> Edge.row(x.money(0), x.money(1)));
    }

    private static void rain() {
        String t = "terms, rain: ";
        Edge.answers(t + "in the first minute alone", wet(5, 9, 600, 600), 39, x -> stood(x));
        Edge.answers(t + "till the minute ahead of the last", wet(5, 9, 600, 603), 9, x -> stood(x));
        Edge.answers(t + "till the last minute", wet(5, 9, 600, 604), 0, x -> stood(x));
        Edge.answers(t + "from the last minute on", wet(5, 9, 604, 1199), 20, x -> stood(x));
        Edge.answers(t + "from the minute behind on", wet(5, 9, 605, 1199), 51, x -> stood(x));
        Edge.answers(t + "as told last, not as told first", Streets.with(wet(5, 9, 600, 1199),
                x -> x.setRain(1199, 1199)), 51, x -> stood(x));
        Edge.answers(t + "none on the next day", Streets.with(wet(5, 9, 600, 1199), x -> {
            x.play();
            x.nextDay();
            x.addTurn(0, 0);
        }), 51, x -> stood(x));
    }

    /** Two turns of five minutes of an act with fire, and one visit. */
    private static char visited(int minute) {
        Hatpitch x = Streets.of(1, 0);
        x.addAct(5, 0, 1, 1, true);
        x.addTurn(0, 0);
        x.addTurn(0, 0);
        x.addVisit(0, minute);
        x.play();
        return x.fineAt(0);
    }

    private static void visits() {
        String t = "terms, constables: ";
        for (int minute : new int[] {600, 604, 610, 614}) {
            Edge.answers(t + "an act plays in the minute " + minute, new Hatpitch(), 'f', x -> visited(minute));
        }
        for (int minute : new int[] {605, 609, 615, 1199}) {
            Edge.answers(t + "nobody plays in the minute " + minute, new Hatpitch(), '-', x -> visited(minute));
        }
        Edge.answers(t + "six visits in one minute fine six times", Streets.with(Streets.of(1, 0), x -> {
            x.addTurn(0, x.addAct(5, 0, 1, 1, true));
            for (int visit = 0; visit < 6; visit++) {
                x.addVisit(0, 604);
            }
            x.play();
        }), "-120 120 20 20", x -> Edge.row(x.money(0), x.fines(), x.sumAt(0), x.sumAt(5)));
        Edge.answers(t + "a circle that breaks with 608 is fined till then", Streets.with(Streets.crowd(false), x -> {
            x.addTurn(0, x.addAct(30, 0, 9, 1, true));
            x.addTurn(0, 0);
            x.setRain(604, 610);
            for (int minute : new int[] {607, 608, 609, 613, 614}) {
                x.addVisit(0, minute);
            }
            x.play();
        }), "608 f f - - f", x -> Edge.row(x.of(0, 0, 'e'), x.fineAt(0), x.fineAt(1), x.fineAt(2), x.fineAt(3),
                x.fineAt(4)));
        Edge.answers(t + "fines move neither the circle nor the hat", Streets.with(Streets.crowd(false), x -> {
            x.addTurn(0, x.addAct(5, 0, 9, 1, true));
            x.addVisit(0, 600);
            x.addVisit(0, 604);
        }), "500 51 460", x -> Edge.row(x.play(), x.of(0, 0, 's'), x.money(0)));
    }

    private static String fined(boolean hasFire, boolean hasPermit) {
        Hatpitch x = Streets.of(1, 0);
        x.addTurn(0, x.addAct(5, 0, 1, 1, hasFire));
        x.addVisit(0, 600);
        x.setPermit(0, hasPermit);
        x.play();
        return Edge.row(x.fineAt(0), x.sumAt(0), x.money(0), x.fines());
    }

    private static void fire() {
        String t = "terms, constables: ";
        Edge.answers(t + "fire without a permit", new Hatpitch(), "f 20 -20 20", x -> fined(true, false));
        Edge.answers(t + "fire with a permit", new Hatpitch(), "- 0 0 0", x -> fined(true, true));
        Edge.answers(t + "no fire and no permit", new Hatpitch(), "- 0 0 0", x -> fined(false, false));
        Edge.answers(t + "a permit taken ahead of the day", Streets.with(Streets.of(1, 0), x -> {
            x.addTurn(0, x.addAct(5, 0, 1, 1, true));
            x.addVisit(0, 600);
            x.setPermit(0, true);
            x.setPermit(0, false);
            x.play();
        }), 'f', x -> x.fineAt(0));
    }

    private static String noisy(int loudness, int echo, int limit) {
        Hatpitch x = new Hatpitch();
        x.addPitch(0, echo, false);
        x.addTurn(0, x.addAct(5, loudness, 1, 1, false));
        x.addVisit(0, 600);
        x.setLaw(limit, 99);
        x.play();
        return Edge.row(x.fineAt(0), x.sumAt(0));
    }

    private static void noise() {
        String t = "terms, constables: ";
        Edge.answers(t + "just the limit 0", new Hatpitch(), "- 0", x -> noisy(0, 0, 0));
        Edge.answers(t + "one above the limit 0", new Hatpitch(), "n 10", x -> noisy(0, 1, 0));
        Edge.answers(t + "just the limit 99", new Hatpitch(), "- 0", x -> noisy(9, 9, 99));
        Edge.answers(t + "one above the limit 98", new Hatpitch(), "n 10", x -> noisy(9, 9, 98));
        Edge.answers(t + "just the limit 55", new Hatpitch(), "- 0", x -> noisy(5, 5, 55));
        Edge.answers(t + "one above the limit 54", new Hatpitch(), "n 10", x -> noisy(5, 5, 54));
        Edge.answers(t + "the limit that nobody told", Streets.with(new Hatpitch(), x -> {
            x.addPitch(0, 9, false);
            x.addTurn(0, x.addAct(5, 9, 1, 1, false));
            x.addVisit(0, 600);
            x.play();
        }), '-', x -> x.fineAt(0));
    }

    private static String near(int yard, int otherYard, int distance) {
        Hatpitch x = Streets.of(0, 2);
        x.addPitch(yard, 0, false);
        x.addPitch(otherYard, 0, false);
        x.addTurn(0, 0);
        x.addTurn(1, 1);
        x.addVisit(0, 600);
        x.setLaw(99, distance);
        x.play();
        return Edge.row(x.fineAt(0), x.sumAt(0));
    }

    private static void distance() {
        String t = "terms, constables: ";
        Edge.answers(t + "next to it, distance 0", new Hatpitch(), "- 0", x -> near(0, 1, 0));
        Edge.answers(t + "next to it, distance 1", new Hatpitch(), "- 0", x -> near(0, 1, 1));
        Edge.answers(t + "next to it, distance 2", new Hatpitch(), "d 5", x -> near(0, 1, 2));
        Edge.answers(t + "98 yards, distance 98", new Hatpitch(), "- 0", x -> near(99, 1, 98));
        Edge.answers(t + "98 yards, distance 99", new Hatpitch(), "d 5", x -> near(99, 1, 99));
        Edge.answers(t + "99 yards, distance 99", new Hatpitch(), "- 0", x -> near(0, 99, 99));
        Edge.answers(t + "ten yards up, distance 10 and 11", new Hatpitch(), "- 0 d 5", x -> Edge.row(
                near(40, 50, 10), near(40, 50, 11)));
        Edge.answers(t + "ten yards down, distance 10 and 11", new Hatpitch(), "- 0 d 5", x -> Edge.row(
                near(50, 40, 10), near(50, 40, 11)));
    }

    private static void distanceOfWhoPlays() {
        String t = "terms, constables: ";
        Edge.answers(t + "no other pitch is nearer than itself", Streets.with(Streets.of(1, 1), x -> {
            x.addTurn(0, 0);
            x.setLaw(99, 99);
            x.addVisit(0, 600);
            x.play();
        }), '-', x -> x.fineAt(0));
        Edge.answers(t + "a pitch near where nobody plays", Streets.with(Streets.of(6, 1), x -> {
            x.addTurn(0, 0);
            x.setLaw(99, 99);
            x.addVisit(0, 600);
            x.play();
        }), '-', x -> x.fineAt(0));
        Edge.answers(t + "one that plays till the minute ahead", Streets.with(among(0, 49), x -> {
            x.setLaw(99, 99);
            x.addVisit(0, 604);
            x.addVisit(0, 605);
            x.play();
        }), "d -", x -> Edge.row(x.fineAt(0), x.fineAt(1)));
        for (int loud = 0; loud < 2; loud++) {
            int quiet = 1 - loud;
            Edge.answers(t + "pitch " + loud + " plays in the minute in which its circle breaks, not behind it",
                    Streets.with(breaking(loud), x -> {
                        x.setLaw(99, 99);
                        x.addVisit(quiet, 604);
                        x.addVisit(quiet, 605);
                        x.play();
                    }), "d -", x -> Edge.row(x.fineAt(0), x.fineAt(1)));
        }
        Edge.answers(t + "two near in one minute fine once", Streets.with(among(0, 49, 51), x -> {
            x.setLaw(99, 99);
            x.addVisit(0, 600);
            x.play();
        }), 5, x -> x.sumAt(0));
    }

    private static String mixed(boolean hasFire, boolean isLoud, boolean isNear) {
        Hatpitch x = new Hatpitch();
        x.addPitch(0, 0, false);
        x.addPitch(10, 0, false);
        x.addTurn(0, x.addAct(5, 5, 1, 1, hasFire));
        x.addTurn(1, x.addAct(5, 0, 1, 1, false));
        x.setLaw(isLoud ? 49 : 50, isNear ? 11 : 10);
        x.addVisit(0, 602);
        x.play();
        return Edge.row(x.fineAt(0), x.sumAt(0));
    }

    private static void allFines() {
        String t = "terms, constables: ";
        String[] due = {"- 0", "d 5", "n 10", "n 15", "f 20", "f 25", "f 30", "f 35"};
        for (int kind = 0; kind < due.length; kind++) {
            boolean hasFire = kind >= 4;
            boolean isLoud = kind % 4 >= 2;
            boolean isNear = kind % 2 == 1;
            Edge.answers(t + "fire " + hasFire + ", noise " + isLoud + ", near " + isNear, new Hatpitch(), due[kind],
                    x -> mixed(hasFire, isLoud, isNear));
        }
    }

    private static void partners() {
        String t = "terms, partners: ";
        Edge.answers(t + "a partner's partner shares", Streets.with(Streets.crowd(5, 1, 1), x -> {
            x.addAct(5, 0, 1, 1, false);
            x.addAct(5, 0, 1, 1, false);
            x.join(0, 1);
            x.join(2, 1);
            x.play();
        }), "4 3 3", x -> Edge.row(x.money(0), x.money(1), x.money(2)));
        Edge.answers(t + "a fine is the act's own", Streets.with(Streets.of(1, 0), x -> {
            x.addTurn(0, x.addAct(5, 0, 1, 1, true));
            x.join(0, x.addAct(5, 0, 1, 1, false));
            x.addVisit(0, 600);
            x.play();
        }), "-20 0", x -> Edge.row(x.money(0), x.money(1)));
    }
}
