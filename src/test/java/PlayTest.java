import java.util.NoSuchElementException;

/** Promises 19 to 28: weather, law, visits, partners, and the day minute by minute; the numbers are by hand. */
public final class PlayTest {
    private static final Class<IllegalArgumentException> ARGUMENT = IllegalArgumentException.class;
    private static final Class<IllegalStateException> STATE = IllegalStateException.class;
    private static final Class<IndexOutOfBoundsException> INDEX = IndexOutOfBoundsException.class;
    private static final Class<NoSuchElementException> NONE = NoSuchElementException.class;

    private PlayTest() {
    }

    public static void main(String[] args) {
        setRain();
        setCold();
        setLaw();
        addVisit();
        join();
        gather();
        rain();
        cold();
        fullRateOfLeaving();
        breaking();
        notBreaking();
        turnsInOrder();
        drowned();
        drownedByWhoBreaks();
        hat();
        shares();
        fines();
        finesByDistance();
        of();
        isBroken();
        fineAt();
        play();
        Expect.end("PlayTest");
    }

    /** One pitch at yard 50 with 600 passers from 10 to 11, ten a minute. */
    private static Hatpitch pitch(int echo, boolean shaded) {
        Hatpitch x = new Hatpitch();
        x.addPitch(50, echo, shaded);
        x.setPassers(0, 10, 600);
        return x;
    }

    private static void one(Hatpitch x, int minutes, int loudness, int skill, int line) {
        x.addTurn(0, x.addAct(minutes, loudness, skill, line, false));
    }

    private static void look(String name, Hatpitch x, int turn, int last, int most, int stood, int given) {
        Expect.same(name + ": last minute", x.of(0, turn, 'e'), last);
        Expect.same(name + ": most", x.of(0, turn, 'm'), most);
        Expect.same(name + ": stood", x.of(0, turn, 's'), stood);
        Expect.same(name + ": given", x.of(0, turn, 'c'), given);
    }

    private static void setRain() {
        Hatpitch x = new Hatpitch();
        Expect.refuses("from 599", x, ARGUMENT, () -> x.setRain(599, 600));
        Expect.refuses("to 1200", x, ARGUMENT, () -> x.setRain(1199, 1200));
        Expect.refuses("to less than from", x, ARGUMENT, () -> x.setRain(700, 699));
        Expect.same("setRain(600, 1199)", x.setRain(600, 1199), 0);
        Expect.same("setRain(700, 700)", x.setRain(700, 700), 600);
        Expect.refuses("from 1200", x, ARGUMENT, () -> x.setRain(1200, 1200));
        Expect.same("setRain(1199, 1199)", x.setRain(1199, 1199), 1);
        x.play();
        Expect.same("after the day was played", x.setRain(600, 601), 1);
        x.nextDay();
        Expect.same("none on the next day", x.setRain(600, 601), 0);
    }

    private static void setCold() {
        Hatpitch x = new Hatpitch();
        Expect.same("setCold(40)", x.setCold(40), 0);
        Expect.same("setCold(1)", x.setCold(1), 40);
        Expect.refuses("cold -1", x, ARGUMENT, () -> x.setCold(-1));
        Expect.refuses("cold 41", x, ARGUMENT, () -> x.setCold(41));
        x.play();
        x.nextDay();
        Expect.same("it stays cold", x.setCold(0), 1);
    }

    private static void setLaw() {
        Hatpitch x = new Hatpitch();
        Expect.same("setLaw(0, 99)", x.setLaw(0, 99), 99);
        Expect.same("setLaw(7, 0)", x.setLaw(7, 0), 0);
        Expect.refuses("limit -1", x, ARGUMENT, () -> x.setLaw(-1, 0));
        Expect.refuses("limit 100", x, ARGUMENT, () -> x.setLaw(100, 0));
        Expect.refuses("distance -1", x, ARGUMENT, () -> x.setLaw(3, -1));
        Expect.refuses("distance 100", x, ARGUMENT, () -> x.setLaw(3, 100));
        x.play();
        x.nextDay();
        Expect.same("the law stays, and a refused limit was not taken", x.setLaw(99, 99), 7);
    }

    private static void addVisit() {
        Hatpitch x = new Hatpitch();
        x.addPitch(0, 0, false);
        Expect.refuses("no pitch, no minute", x, INDEX, () -> x.addVisit(1, 599));
        Expect.refuses("a pitch below 0", x, INDEX, () -> x.addVisit(-1, 600));
        Expect.refuses("minute 599", x, ARGUMENT, () -> x.addVisit(0, 599));
        Expect.refuses("minute 1200", x, ARGUMENT, () -> x.addVisit(0, 1200));
        for (int visit = 1; visit <= 6; visit++) {
            Expect.same("addVisit", x.addVisit(0, visit == 6 ? 1199 : 600), visit);
        }
        Expect.refuses("a seventh", x, STATE, () -> x.addVisit(0, 600));
        Expect.refuses("a seventh, out of range", x, ARGUMENT, () -> x.addVisit(0, 1200));
        x.play();
        x.nextDay();
        Expect.same("none on the next day", x.addVisit(0, 600), 1);
        x.play();
        Expect.refuses("played", x, STATE, () -> x.addVisit(0, 600));
    }

    private static void join() {
        Hatpitch x = new Hatpitch();
        for (int act = 0; act < 5; act++) {
            x.addAct(5, 0, 1, 1, false);
        }
        Expect.same("join(0, 1)", x.join(0, 1), 2);
        Expect.same("join(1, 0)", x.join(1, 0), 2);
        Expect.same("join(2, 3)", x.join(2, 3), 2);
        Expect.same("partners of partners", x.join(3, 1), 4);
        Expect.same("partners already", x.join(0, 2), 4);
        Expect.same("all", x.join(4, 0), 5);
        Expect.refuses("no act", x, INDEX, () -> x.join(5, 5));
        Expect.refuses("no other", x, INDEX, () -> x.join(0, -1));
        Expect.refuses("both the same", x, ARGUMENT, () -> x.join(4, 4));
    }

    /** 10 pass a minute: 9, 9, 10, 11 and 12 stop; from 40 on who stand there draw no more than 40 do. */
    private static void gather() {
        Hatpitch x = pitch(0, false);
        one(x, 5, 0, 9, 1);
        Expect.same("play()", x.play(), 500);
        look("five minutes", x, 0, 604, 51, 51, 500);
        Hatpitch y = pitch(0, false);
        one(y, 6, 0, 9, 1);
        y.play();
        Expect.same("13 stop in the sixth", y.of(0, 0, 's'), 64);
        Hatpitch z = pitch(0, false);
        one(z, 7, 0, 9, 1);
        z.play();
        Expect.same("13 in the seventh, too", z.of(0, 0, 's'), 77);
        Hatpitch few = new Hatpitch();
        few.addPitch(0, 0, false);
        few.setPassers(0, 10, 100);
        one(few, 6, 0, 9, 1);
        few.play();
        Expect.same("1, 2, 2, 1, 2 and 2 pass: 0, 1, 1, 0, 1 and 1 stop", few.of(0, 0, 's'), 4);
    }

    private static void rain() {
        Hatpitch x = pitch(0, false);
        one(x, 5, 0, 9, 1);
        x.setRain(604, 604);
        x.play();
        look("rain in the last minute", x, 0, 604, 39, 20, 100);
        Hatpitch shaded = pitch(0, true);
        one(shaded, 5, 0, 9, 1);
        shaded.setRain(604, 1199);
        shaded.play();
        look("in the shade", shaded, 0, 604, 51, 51, 250);
        Hatpitch over = pitch(0, false);
        one(over, 5, 0, 9, 1);
        over.setRain(600, 603);
        over.play();
        look("rain till the last minute but one", over, 0, 604, 9, 9, 90);
        Hatpitch behind = pitch(0, false);
        one(behind, 5, 0, 9, 1);
        behind.setRain(605, 700);
        behind.play();
        look("rain behind the last minute", behind, 0, 604, 51, 51, 500);
        Hatpitch odd = pitch(0, true);
        one(odd, 5, 0, 8, 1);
        odd.setRain(604, 604);
        odd.play();
        look("half of 405, cut", odd, 0, 604, 46, 46, 202);
    }

    /** 9; then 9 more less 3, 10 less 6, 10 less 7, 11 less 8. */
    private static void cold() {
        Hatpitch x = pitch(0, false);
        one(x, 5, 0, 9, 1);
        x.setCold(40);
        x.play();
        look("cold", x, 0, 604, 25, 25, 250);
    }

    /** Cold, rain and noise at once: 40, 50 and 10 in a hundred go, which is all. */
    private static void fullRateOfLeaving() {
        Hatpitch x = pitch(0, false);
        x.addPitch(49, 0, false);
        one(x, 6, 0, 9, 1);
        x.addTurn(1, x.addAct(60, 9, 1, 1, false));
        x.setCold(40);
        x.setRain(605, 605);
        x.play();
        Expect.same("all go", x.of(0, 0, 's'), 0);
        Expect.same("4, 4 less 2, 4 less 3, 4 less 3, 4 less 4", x.of(0, 0, 'm'), 8);
        Expect.same("drowned", x.of(0, 0, 'd'), 6);
    }

    /** Rain from 604 on: 39, then 20, 10, 5, 3 and 2. */
    private static void breaking() {
        Hatpitch x = pitch(0, false);
        one(x, 30, 0, 9, 1);
        one(x, 5, 0, 9, 1);
        x.setRain(604, 610);
        Expect.same("play()", x.play(), x.of(0, 1, 'c'));
        look("broken", x, 0, 608, 39, 2, 0);
        Expect.same("it broke", x.isBroken(0, 0), true);
        Expect.same("the next one", x.of(0, 1, 'b'), 614);
        Expect.same("with nobody at first", x.of(0, 1, 's'), 51);
        Expect.sameNumber("half of them were good", x.goodShare(), 0.5f);
        Hatpitch last = pitch(0, false);
        one(last, 9, 0, 9, 1);
        last.setRain(604, 610);
        Expect.same("no hat", last.play(), 0);
        look("broken in its last minute", last, 0, 608, 39, 2, 0);
        Expect.same("it broke, too", last.isBroken(0, 0), true);
        Hatpitch three = pitch(0, false);
        one(three, 8, 0, 9, 1);
        three.setRain(604, 610);
        Expect.same("a hat", three.play(), 15);
        look("three stand", three, 0, 607, 39, 3, 15);
        Expect.same("it did not break", three.isBroken(0, 0), false);
    }

    private static void notBreaking() {
        Hatpitch nine = pitch(0, false);
        one(nine, 5, 0, 9, 1);
        nine.setRain(601, 604);
        nine.play();
        look("nine at most: 9, 5, 3, 2, 1", nine, 0, 604, 9, 1, 5);
        Expect.same("it did not break", nine.isBroken(0, 0), false);
        Hatpitch ten = pitch(0, false);
        one(ten, 5, 0, 5, 1);
        ten.setRain(602, 604);
        ten.play();
        look("ten at most: 5, 10, 5, 3, 2", ten, 0, 604, 10, 2, 0);
        Expect.same("it broke", ten.isBroken(0, 0), true);
        Hatpitch nobody = new Hatpitch();
        nobody.addPitch(0, 0, false);
        one(nobody, 60, 0, 9, 9);
        nobody.play();
        look("nobody came", nobody, 0, 659, 0, 0, 0);
        Expect.same("it did not break", nobody.isBroken(0, 0), false);
        Expect.sameNumber("all good", nobody.goodShare(), 1.0f);
    }

    private static void turnsInOrder() {
        Hatpitch x = new Hatpitch();
        x.addPitch(0, 0, false);
        one(x, 60, 0, 1, 1);
        one(x, 5, 0, 1, 1);
        for (int turn = 2; turn < 8; turn++) {
            x.addTurn(0, 0);
        }
        x.play();
        Expect.same("turn 0 begins", x.of(0, 0, 'b'), 600);
        Expect.same("turn 0 ends", x.of(0, 0, 'e'), 659);
        Expect.same("turn 1 begins", x.of(0, 1, 'b'), 665);
        Expect.same("turn 1 ends", x.of(0, 1, 'e'), 669);
        Expect.same("turn 2 begins", x.of(0, 2, 'b'), 675);
        Expect.same("turn 7 begins", x.of(0, 7, 'b'), 1000);
        Expect.same("turn 7 ends", x.of(0, 7, 'e'), 1059);
        Expect.same("sound", x.isSound(), true);
    }

    /** The act at yard 50 plays ten minutes, the other one five, from the pitch with the echo. */
    private static int drownedMinutes(int loudness, int yard, int echo, int otherLoudness) {
        Hatpitch x = pitch(9, false);
        x.addPitch(yard, echo, false);
        one(x, 10, loudness, 9, 1);
        x.addTurn(1, x.addAct(5, otherLoudness, 1, 1, false));
        x.play();
        return x.of(0, 0, 'd');
    }

    private static void drowned() {
        Expect.same("10 less 9 is more than 0", drownedMinutes(0, 41, 0, 1), 5);
        Expect.same("10 less 10 is not", drownedMinutes(0, 40, 0, 1), 0);
        Expect.same("on the other side, too", drownedMinutes(0, 59, 0, 1), 5);
        Expect.same("nor here", drownedMinutes(0, 60, 0, 1), 0);
        Expect.same("20 and 9 less 8 is more than 20", drownedMinutes(2, 58, 9, 2), 5);
        Expect.same("20 and 9 less 9 is not", drownedMinutes(2, 59, 9, 2), 0);
        Expect.same("90 less 1 is not more than 90", drownedMinutes(9, 51, 0, 9), 0);
        Hatpitch x = pitch(0, false);
        x.addPitch(41, 0, false);
        one(x, 5, 0, 9, 1);
        x.addTurn(1, x.addAct(5, 1, 1, 1, false));
        x.play();
        look("4, 4, 4, 5 less 1, 5 less 1", x, 0, 604, 20, 20, 200);
        Expect.same("the louder one is not drowned", x.of(1, 0, 'd'), 0);
    }

    /** Ten stand at 601, rain comes with 602, and the circle of pitch 1 breaks with 604. */
    private static void drownedByWhoBreaks() {
        for (int loud = 0; loud < 2; loud++) {
            Hatpitch x = new Hatpitch();
            x.addPitch(10, 0, loud == 1);
            x.addPitch(11, 0, loud == 0);
            x.setPassers(loud == 0 ? 0 : 1, 10, 600);
            x.addTurn(loud, x.addAct(30, 9, 5, 1, false));
            x.addTurn(1 - loud, x.addAct(30, 0, 1, 1, false));
            x.setRain(602, 700);
            x.play();
            Expect.same("the loud one breaks", x.of(loud, 0, 'e'), 604);
            Expect.same("heard in its last minute, no longer", x.of(1 - loud, 0, 'd'), 5);
        }
    }

    private static int hatOf(int line, int skill) {
        Hatpitch x = pitch(0, false);
        one(x, 5, 0, skill, 1);
        x.setLine(0, line);
        return x.play();
    }

    /** 51 stand for a skill of 9. */
    private static void hat() {
        Expect.same("line 1: 1 goes", hatOf(1, 9), 50 * 10);
        Expect.same("line 2: 3 go", hatOf(2, 9), 48 * 11);
        Expect.same("line 9: 13 go", hatOf(9, 9), 38 * 18);
        Hatpitch x = pitch(0, false);
        one(x, 5, 0, 9, 9);
        x.play();
        Expect.same("those who stood, ahead of the hat", x.of(0, 0, 's'), 51);
        x.setLine(0, 1);
        Expect.same("a line told later changes nothing", x.of(0, 0, 'c'), 38 * 18);
    }

    private static void shares() {
        Hatpitch x = pitch(0, false);
        for (int act = 0; act < 4; act++) {
            x.addAct(5, 0, 9, 1, false);
        }
        x.join(0, 1);
        x.join(3, 1);
        x.addTurn(0, 1);
        Expect.same("play()", x.play(), 500);
        Expect.same("a partner", x.money(0), 166);
        Expect.same("the act, with the rest", x.money(1), 168);
        Expect.same("none of them", x.money(2), 0);
        Expect.same("a partner's partner", x.money(3), 166);
        x.join(2, 0);
        Expect.same("partners told later get nothing", x.money(2), 0);
        x.nextDay();
        x.addTurn(0, 2);
        x.play();
        Expect.same("partners still", x.money(0), 166 + 125);
        Expect.same("four shares", x.money(2), 125);
        Expect.same("sound", x.isSound(), true);
    }

    private static Hatpitch fined(int loudness, int echo, boolean fire, boolean permit, int limit) {
        Hatpitch x = new Hatpitch();
        x.addPitch(50, echo, false);
        x.addAct(5, loudness, 1, 1, fire);
        x.setPermit(0, permit);
        x.setLaw(limit, 99);
        x.addTurn(0, 0);
        x.addTurn(0, 0);
        x.addVisit(0, 604);
        x.addVisit(0, 605);
        x.play();
        return x;
    }

    private static void lookFine(String name, Hatpitch x, int visit, char why, int sum) {
        Expect.same(name + ": why", x.fineAt(visit), why);
        Expect.same(name + ": sum", x.sumAt(visit), sum);
    }

    private static void fines() {
        lookFine("fire", fined(0, 0, true, false, 99), 0, 'f', 20);
        lookFine("fire with a permit", fined(0, 0, true, true, 99), 0, '-', 0);
        lookFine("no fire, no permit", fined(0, 0, false, false, 99), 0, '-', 0);
        lookFine("at the limit", fined(9, 5, false, false, 95), 0, '-', 0);
        lookFine("above the limit", fined(9, 5, false, false, 94), 0, 'n', 10);
        lookFine("both", fined(9, 5, true, false, 94), 0, 'f', 30);
        lookFine("between the turns", fined(9, 5, true, false, 0), 1, '-', 0);
        Hatpitch x = fined(1, 0, true, false, 9);
        Expect.same("money", x.money(0), -30);
        Expect.same("fines()", x.fines(), 30);
        Hatpitch twice = new Hatpitch();
        twice.addPitch(0, 0, false);
        twice.addAct(5, 0, 1, 1, true);
        twice.addAct(5, 0, 1, 1, true);
        twice.join(0, 1);
        twice.addTurn(0, 1);
        twice.addVisit(0, 600);
        twice.addVisit(0, 600);
        twice.play();
        Expect.same("two visits", twice.money(1), -40);
        Expect.same("partners share no fines", twice.money(0), 0);
        Expect.same("all fines", twice.fines(), 40);
        Expect.same("sound", twice.isSound(), true);
    }

    /** Pitches at the yards 50 and 40; the act of pitch 1 plays till 604, the one of pitch 0 till 609. */
    private static void finesByDistance() {
        for (int distance = 10; distance <= 11; distance++) {
            Hatpitch x = new Hatpitch();
            x.addPitch(50, 0, false);
            x.addPitch(40, 0, false);
            x.addAct(10, 9, 1, 1, true);
            x.addAct(5, 0, 1, 1, false);
            x.addTurn(0, 0);
            x.addTurn(1, 1);
            x.setLaw(89, distance);
            x.addVisit(1, 604);
            x.addVisit(0, 604);
            x.addVisit(0, 605);
            x.addVisit(1, 605);
            x.play();
            boolean near = distance == 11;
            lookFine("distance " + distance, x, 0, near ? 'd' : '-', near ? 5 : 0);
            lookFine("all at once", x, 1, 'f', near ? 35 : 30);
            lookFine("the other one is over", x, 2, 'f', 30);
            lookFine("over itself", x, 3, '-', 0);
        }
    }

    private static void of() {
        Hatpitch x = pitch(0, false);
        one(x, 5, 0, 9, 1);
        Expect.refuses("no pitch, no thing", x, INDEX, () -> x.of(1, 0, 'q'));
        Expect.refuses("a pitch below 0", x, INDEX, () -> x.of(-1, 0, 'b'));
        Expect.refuses("no thing, not played", x, ARGUMENT, () -> x.of(0, 0, 'B'));
        Expect.refuses("not played", x, STATE, () -> x.of(0, 1, 'b'));
        x.play();
        for (char what : "bemscd".toCharArray()) {
            Expect.refuses("no turn", x, NONE, () -> x.of(0, 1, what));
            Expect.refuses("a turn below 0", x, NONE, () -> x.of(0, -1, what));
        }
        for (char what = 0; what < 256; what++) {
            char asked = what;
            if ("bemscd".indexOf(what) < 0) {
                Expect.refuses("no thing", x, ARGUMENT, () -> x.of(0, 7, asked));
            }
        }
        x.addPitch(1, 0, false);
        Expect.refuses("no turn of a new pitch", x, NONE, () -> x.of(1, 0, 'b'));
        x.nextDay();
        Expect.refuses("not played", x, STATE, () -> x.of(0, 0, 'b'));
    }

    private static void isBroken() {
        Hatpitch x = pitch(0, false);
        one(x, 5, 0, 9, 1);
        Expect.refuses("no pitch", x, INDEX, () -> x.isBroken(1, 0));
        Expect.refuses("not played", x, STATE, () -> x.isBroken(0, 1));
        x.play();
        Expect.same("isBroken(0, 0)", x.isBroken(0, 0), false);
        Expect.refuses("no turn", x, NONE, () -> x.isBroken(0, 1));
        Expect.refuses("a turn below 0", x, NONE, () -> x.isBroken(0, -1));
        Expect.refuses("a pitch below 0", x, INDEX, () -> x.isBroken(-1, -1));
    }

    private static void fineAt() {
        Hatpitch x = pitch(0, false);
        Expect.refuses("not played, no visit", x, STATE, () -> x.fineAt(0));
        Expect.refuses("not played, no visit", x, STATE, () -> x.sumAt(0));
        x.addVisit(0, 600);
        Expect.refuses("not played", x, STATE, () -> x.fineAt(0));
        Expect.refuses("not played", x, STATE, () -> x.sumAt(0));
        x.play();
        lookFine("nobody plays", x, 0, '-', 0);
        Expect.refuses("no visit", x, NONE, () -> x.fineAt(1));
        Expect.refuses("no visit", x, NONE, () -> x.sumAt(1));
        Expect.refuses("a visit below 0", x, NONE, () -> x.fineAt(-1));
        Expect.refuses("a visit below 0", x, NONE, () -> x.sumAt(-1));
    }

    private static void play() {
        Hatpitch empty = new Hatpitch();
        Expect.same("an empty street", empty.play(), 0);
        Expect.refuses("played", empty, STATE, empty::play);
        Hatpitch x = new Hatpitch();
        for (int pitch = 0; pitch < 2; pitch++) {
            x.addPitch(99 * pitch, 0, false);
            x.setPassers(pitch, 10, 600);
            x.addTurn(pitch, x.addAct(5, 0, 9, 1, false));
        }
        x.addTurn(1, 1);
        Expect.same("of all pitches and turns", x.play(), 1500);
        Expect.refuses("played", x, STATE, x::play);
        x.nextDay();
        Expect.same("a day without turns", x.play(), 0);
    }
}
