import java.util.NoSuchElementException;

/** Promises 29 to 36: money, fines, days, the diary, and what is summed up over all. */
public final class BooksTest {
    private static final Class<IllegalStateException> STATE = IllegalStateException.class;
    private static final Class<IndexOutOfBoundsException> INDEX = IndexOutOfBoundsException.class;
    private static final Class<ArithmeticException> ARITHMETIC = ArithmeticException.class;
    private static final Class<NoSuchElementException> NONE = NoSuchElementException.class;

    private BooksTest() {
    }

    public static void main(String[] args) {
        money();
        fines();
        nextDay();
        whatStays();
        diary();
        checksum();
        goodShare();
        meanMoney();
        isSound();
        Expect.end("BooksTest");
    }

    /** 51 stand at the end of its turn of act 0, which gives 500. */
    private static Hatpitch street() {
        Hatpitch x = new Hatpitch();
        x.addPitch(50, 0, false);
        x.setPassers(0, 10, 600);
        x.addAct(5, 0, 9, 1, true);
        x.addTurn(0, 0);
        return x;
    }

    private static void money() {
        Hatpitch x = street();
        Expect.same("at first", x.money(0), 0);
        x.play();
        Expect.same("money(0)", x.money(0), 500);
        x.nextDay();
        Expect.same("it stays", x.money(0), 500);
        x.addTurn(0, 0);
        x.addVisit(0, 600);
        x.play();
        Expect.same("money(0)", x.money(0), 980);
        Expect.refuses("no act", x, INDEX, () -> x.money(1));
        Expect.refuses("an act below 0", x, INDEX, () -> x.money(-1));
    }

    private static void fines() {
        Hatpitch x = street();
        x.addVisit(0, 600);
        x.addVisit(0, 604);
        Expect.same("not yet", x.fines(), 0);
        x.play();
        Expect.same("fines()", x.fines(), 40);
        x.nextDay();
        x.addTurn(0, 0);
        x.addVisit(0, 602);
        x.play();
        Expect.same("of all days", x.fines(), 60);
    }

    private static void nextDay() {
        Hatpitch x = street();
        Expect.refuses("not played", x, STATE, x::nextDay);
        x.addVisit(0, 600);
        x.setRain(600, 601);
        x.play();
        Expect.same("nextDay()", x.nextDay(), 1);
        Expect.refuses("not played", x, STATE, x::nextDay);
        Expect.refuses("no turns", x, NONE, () -> x.turnAt(0, 0));
        Expect.same("a visit", x.addVisit(0, 602), 1);
        Expect.same("no rain", x.setRain(1199, 1199), 0);
        x.addTurn(0, 0);
        Expect.same("a dry day", x.play(), 500);
        Expect.same("nextDay()", x.nextDay(), 2);
        x.play();
        Expect.refuses("no visits", x, NONE, () -> x.fineAt(0));
        Expect.same("nextDay()", x.nextDay(), 3);
    }

    private static void whatStays() {
        Hatpitch x = street();
        x.addAct(5, 0, 9, 1, true);
        x.addCustom(1, 0);
        x.setPermit(1, true);
        x.join(0, 1);
        x.setCold(40);
        x.setLaw(8, 9);
        x.drawLots();
        x.play();
        x.nextDay();
        Expect.same("customs", x.orders(), 1);
        Expect.same("a permit", x.setPermit(1, false), true);
        Expect.same("the drawn order", x.lotAt(0), 1);
        Expect.same("passers", x.passersAt(0, 600), 10);
        Expect.same("partners", x.join(0, 1), 2);
        Expect.same("the law", x.setLaw(8, 9), 8);
        x.addTurn(0, 0);
        Expect.same("the cold", x.play(), 250);
    }

    private static void diary() {
        Hatpitch x = street();
        Expect.refuses("no day is over", x, NONE, () -> x.diary(1));
        x.play();
        Expect.refuses("the day is not over", x, NONE, () -> x.diary(1));
        x.nextDay();
        Expect.same("diary(1)", x.diary(1), 500);
        Expect.refuses("diary(0)", x, NONE, () -> x.diary(0));
        Expect.refuses("diary(-1)", x, NONE, () -> x.diary(-1));
        Expect.refuses("diary(2)", x, NONE, () -> x.diary(2));
        for (int day = 1; day < 12; day++) {
            x.setPassers(0, 10, 600 - 30 * day);
            x.addTurn(0, 0);
            int given = x.play();
            x.nextDay();
            Expect.same("the newest", x.diary(1), given);
            int kept = Math.min(day + 1, 10);
            Expect.same("the oldest is kept", x.diary(kept) >= x.diary(1), true);
            Expect.refuses("one more is not", x, NONE, () -> x.diary(kept + 1));
            if (day == 9) {
                Expect.same("the first day is the tenth ago", x.diary(10), 500);
            }
            if (day == 10) {
                Expect.same("the first day is lost", x.diary(10) < 500, true);
            }
        }
    }

    private static void checksum() {
        Hatpitch x = street();
        x.addPitch(99, 0, false);
        x.addAct(5, 0, 1, 7, false);
        x.addTurn(0, 0);
        x.addVisit(0, 600);
        x.seed(2147483646);
        x.play();
        long[] parts = {980, 1, 0, 7, 2, 50, 0, 99, 20, 2147483646};
        long due = 7;
        for (long part : parts) {
            due = 31 * due + part;
        }
        Expect.same("checksum()", x.checksum(), due);
    }

    private static void goodShare() {
        Hatpitch x = street();
        Expect.refuses("not played", x, STATE, x::goodShare);
        x.addAct(30, 0, 9, 1, false);
        x.addTurn(0, 1);
        x.addTurn(0, 0);
        x.setRain(614, 700);
        x.play();
        Expect.same("the second one broke", x.isBroken(0, 1), true);
        Expect.sameNumber("goodShare()", x.goodShare(), 2f / 3f);
        x.nextDay();
        Expect.refuses("not played", x, STATE, x::goodShare);
        x.play();
        Expect.refuses("no turns", x, ARITHMETIC, x::goodShare);
    }

    private static void meanMoney() {
        Hatpitch empty = new Hatpitch();
        Expect.refuses("no acts", empty, ARITHMETIC, empty::meanMoney);
        Hatpitch x = street();
        Expect.sameNumber("at first", x.meanMoney(), 0.0);
        x.addAct(5, 0, 1, 1, false);
        x.addAct(5, 0, 1, 1, false);
        x.play();
        Expect.sameNumber("meanMoney()", x.meanMoney(), 500.0 / 3.0);
        Hatpitch poor = new Hatpitch();
        poor.addPitch(0, 0, false);
        poor.addAct(5, 0, 1, 1, true);
        poor.addTurn(0, 0);
        poor.addVisit(0, 600);
        poor.play();
        Expect.sameNumber("below 0", poor.meanMoney(), -20.0);
    }

    private static void isSound() {
        Hatpitch x = street();
        x.addAct(7, 9, 3, 9, true);
        x.addPitch(51, 9, true);
        x.join(0, 1);
        x.addCustom(1, 0);
        x.drawLots();
        x.endCustom(1, 0);
        x.addCustom(0, 1);
        x.addTurn(1, 1);
        x.addTurn(0, 0);
        x.setLaw(0, 99);
        for (int day = 0; day < 13; day++) {
            Expect.same("sound ahead of a day", x.isSound(), true);
            x.addVisit(0, 603);
            x.addVisit(1, 600 + day);
            x.setRain(600, 600 + day);
            x.play();
            Expect.same("sound behind it", x.isSound(), true);
            x.nextDay();
            x.turnsByLots();
        }
    }
}
