import java.math.BigInteger;

/** The boundary cases of promises 29 to 36: money, fines, days, the diary, the checksum, shares and soundness. */
public final class BooksEdgesTest {
    private BooksEdgesTest() {
    }

    public static void main(String[] args) {
        money();
        fines();
        nextDay();
        nextDayBegins();
        diary();
        diaryLosesTheOldest();
        checksum();
        checksumWraps();
        goodShare();
        meanMoney();
        isSound();
        Edge.end("BooksEdgesTest");
    }

    /** One act with fire on one pitch, with a turn and visits that fine it 20 each. */
    private static Hatpitch fined(int visits) {
        Hatpitch x = Streets.of(1, 0);
        x.addAct(5, 0, 1, 1, true);
        return fined(x, visits);
    }

    private static Hatpitch fined(Hatpitch x, int visits) {
        x.addTurn(0, 0);
        for (int visit = 0; visit < visits; visit++) {
            x.addVisit(0, 604);
        }
        x.play();
        return x;
    }

    private static void money() {
        String p = "promise 29, money: ";
        Edge.range(p + "act", 0, 7, Edge.INDEX, () -> Streets.of(0, 8), (x, n) -> x.money(n));
        Edge.refuses(p + "without acts", Streets.of(1, 0), Edge.INDEX, x -> x.money(0));
        Edge.refuses(p + "one beyond the only act", Streets.of(0, 1), Edge.INDEX, x -> x.money(1));
        Edge.answers(p + "0 at first", Streets.of(0, 8), "0 0", x -> Edge.row(x.money(0), x.money(7)));
        Edge.answers(p + "below 0", fined(6), -120, x -> x.money(0));
        Edge.answers(p + "far below 0, by 30 days of fines", finedDays(30), -3600, x -> x.money(0));
        Edge.answers(p + "far above 0, by 30 days of eight turns of 60 minutes", richDays(30),
                (30 * 8 * 10080) + " 80640 0 true", x -> Edge.row(x.money(0), x.diary(10), x.fines(), x.isSound()));
        Edge.answers(p + "just 0 again", Streets.with(Streets.crowd(false), x -> {
            x.addAct(5, 0, 1, 3, true);
            fined(x, 1);
        }), "20 0", x -> Edge.row(x.of(0, 0, 'c'), x.money(0)));
        Edge.answers(p + "not yet changed by a turn told", Streets.crowd(5, 9, 1), 0, x -> x.money(0));
    }

    /** The same on one day after another. */
    private static Hatpitch finedDays(int days) {
        Hatpitch x = fined(6);
        for (int day = 1; day < days; day++) {
            x.nextDay();
            fined(x, 6);
        }
        return x;
    }

    /** By the end of each turn 766 stand there, of whom 206 go, and the others give 18 pence each. */
    private static Hatpitch richDays(int days) {
        Hatpitch x = Streets.crowd(false);
        for (int hour = 11; hour < 20; hour++) {
            x.setPassers(0, hour, 600);
        }
        x.addAct(60, 0, 9, 9, false);
        for (int day = 0; day < days; day++) {
            for (int turn = 0; turn < 8; turn++) {
                x.addTurn(0, 0);
            }
            x.play();
            x.nextDay();
        }
        return x;
    }

    private static void fines() {
        String p = "promise 30, fines: ";
        Edge.answers(p + "none at first", new Hatpitch(), 0, x -> x.fines());
        Edge.answers(p + "none by a visit that meets nobody", Streets.with(Streets.of(1, 1), x -> {
            x.addVisit(0, 600);
            x.play();
        }), 0, x -> x.fines());
        Edge.answers(p + "none before the day is played", Streets.with(Streets.of(1, 0), x -> {
            x.addTurn(0, x.addAct(5, 0, 1, 1, true));
            x.addVisit(0, 600);
        }), 0, x -> x.fines());
        Edge.answers(p + "the most of a day: six times 35", Streets.with(new Hatpitch(), x -> {
            x.addPitch(0, 9, false);
            x.addPitch(1, 0, false);
            x.addAct(5, 9, 1, 1, true);
            x.addTurn(1, x.addAct(5, 0, 1, 1, false));
            x.setLaw(98, 2);
            fined(x, 6);
        }), "210 35 -210", x -> Edge.row(x.fines(), x.sumAt(5), x.money(0)));
        Edge.answers(p + "of 30 days, of which the diary keeps ten", finedDays(30), 3600, x -> x.fines());
        Edge.answers(p + "of all days", fined(6), "120 1 240 2 240", x -> Edge.row(
                x.fines(), x.nextDay(), fined(x, 6).fines(), x.nextDay(), x.fines()));
    }

    private static void nextDay() {
        String p = "promise 31, nextDay: ";
        Edge.refuses(p + "not played", new Hatpitch(), Edge.STATE, x -> x.nextDay());
        Edge.refuses(p + "not played, with turns and visits", Streets.with(Streets.crowd(5, 9, 1),
                x -> x.addVisit(0, 600)), Edge.STATE, x -> x.nextDay());
        Edge.refuses(p + "the next one not played", Streets.with(Streets.played(Streets.crowd(5, 9, 1)),
                x -> x.nextDay()), Edge.STATE, x -> x.nextDay());
        Edge.answers(p + "the first one is 1", Streets.played(new Hatpitch()), 1, x -> x.nextDay());
        Edge.answers(p + "the second one is 2", Streets.played(new Hatpitch()), "1 0 2", x -> Edge.row(
                x.nextDay(), x.play(), x.nextDay()));
        Edge.answers(p + "256 of them in 512 calls", new Hatpitch(), 256, x -> {
            int day = 0;
            for (int call = 0; call < 512; call += 2) {
                x.play();
                day = x.nextDay();
            }
            return day;
        });
    }

    private static void nextDayBegins() {
        String p = "promise 31, nextDay: ";
        Edge.refuses(p + "no turns", Streets.with(fined(6), x -> x.nextDay()), Edge.NONE, x -> x.turnAt(0, 0));
        Edge.answers(p + "no visits: six more are taken", fined(6), "1 6", x -> {
            int day = x.nextDay();
            int visits = 0;
            for (int visit = 0; visit < 6; visit++) {
                visits = x.addVisit(0, 600);
            }
            return Edge.row(day, visits);
        });
        Edge.answers(p + "no rain", Streets.with(fined(1), x -> x.setRain(600, 1199)), "1 0", x -> Edge.row(
                x.nextDay(), x.setRain(600, 600)));
        Edge.answers(p + "money and fines stay", fined(6), "1 -120 120", x -> Edge.row(
                x.nextDay(), x.money(0), x.fines()));
        Edge.answers(p + "cold, law and z stay", Streets.with(fined(1), x -> {
            x.setCold(40);
            x.setLaw(0, 99);
            x.seed(2147483646);
        }), "1 40 0 2147483646", x -> Edge.row(x.nextDay(), x.setCold(0), x.setLaw(0, 0), x.seed(1)));
        Edge.answers(p + "the distance by law stays", Streets.with(Streets.of(2, 2), x -> {
            x.setLaw(99, 11);
            x.play();
            x.nextDay();
            x.addTurn(1, 1);
            fined(x, 1);
        }), 'd', x -> x.fineAt(0));
        Edge.answers(p + "permits, lines, customs and partners stay", Streets.with(Streets.of(1, 8), x -> {
            x.setPermit(7, true);
            x.setLine(7, 9);
            x.addCustom(7, 0);
            x.join(7, 0);
            x.play();
        }), "1 true 9 false 3 4", x -> Edge.row(x.nextDay(), x.setPermit(7, true), x.setLine(7, 9), x.addCustom(7, 0),
                x.join(0, 6), x.join(7, 5)));
    }

    /** Days that are over: on the first one nothing is given, on each other one ten pence more. */
    private static Hatpitch days(int days) {
        Hatpitch x = Streets.of(6, 6);
        for (int pitch = 0; pitch < 6; pitch++) {
            x.setPassers(pitch, 10, 600);
            x.setPassers(pitch, 11, 600);
        }
        for (int day = 0; day < days; day++) {
            for (int turn = 0; turn < day; turn++) {
                x.addTurn(turn / 8, turn / 8);
            }
            x.play();
            x.nextDay();
        }
        return x;
    }

    private static String lines(Hatpitch x, int lines) {
        Object[] found = new Object[lines];
        for (int ago = 1; ago <= lines; ago++) {
            found[ago - 1] = x.diary(ago);
        }
        return Edge.row(found);
    }

    private static void diary() {
        String p = "promise 32, diary: ";
        Edge.range(p + "of one day, ago", 1, 1, Edge.NONE, () -> days(1), (x, n) -> x.diary(n));
        Edge.range(p + "of two days, ago", 1, 2, Edge.NONE, () -> days(2), (x, n) -> x.diary(n));
        Edge.range(p + "of nine days, ago", 1, 9, Edge.NONE, () -> days(9), (x, n) -> x.diary(n));
        Edge.range(p + "of ten days, ago", 1, 10, Edge.NONE, () -> days(10), (x, n) -> x.diary(n));
        Edge.range(p + "of eleven days, ago", 1, 10, Edge.NONE, () -> days(11), (x, n) -> x.diary(n));
        Edge.refuses(p + "no day is over", new Hatpitch(), Edge.NONE, x -> x.diary(1));
        Edge.refuses(p + "0 where no day is over", new Hatpitch(), Edge.NONE, x -> x.diary(0));
        Edge.refuses(p + "the day was played, but is not over", Streets.played(Streets.crowd(5, 9, 1)), Edge.NONE,
                x -> x.diary(1));
        Edge.refuses(p + "a day played is no line of the diary yet", Streets.played(days(1)), Edge.NONE,
                x -> x.diary(2));
    }

    private static void diaryLosesTheOldest() {
        String p = "promise 32, diary: ";
        Edge.answers(p + "a day on which nothing was given", days(1), "0", x -> lines(x, 1));
        Edge.answers(p + "two days", days(2), "10 0", x -> lines(x, 2));
        Edge.answers(p + "nine days", days(9), "80 70 60 50 40 30 20 10 0", x -> lines(x, 9));
        Edge.answers(p + "ten days are kept", days(10), "90 80 70 60 50 40 30 20 10 0", x -> lines(x, 10));
        Edge.answers(p + "of eleven days the first is lost", days(11), "100 90 80 70 60 50 40 30 20 10",
                x -> lines(x, 10));
        Edge.answers(p + "of twenty days the first ten are lost", days(20),
                "190 180 170 160 150 140 130 120 110 100", x -> lines(x, 10));
        Edge.answers(p + "days on which nothing was given are lines, too", Streets.of(1, 1), "0 0 10 0", x -> {
            x.setPassers(0, 10, 600);
            for (int day = 0; day < 4; day++) {
                if (day == 1) {
                    x.addTurn(0, 0);
                }
                x.play();
                x.nextDay();
            }
            return lines(x, 4);
        });
        Edge.answers(p + "a day being played changes no line", Streets.played(days(2)), "10 0", x -> lines(x, 2));
    }

    private static long sum(long... parts) {
        return big(parts).longValue();
    }

    private static BigInteger big(long... parts) {
        BigInteger sum = BigInteger.valueOf(7);
        for (long part : parts) {
            sum = sum.multiply(BigInteger.valueOf(31)).add(BigInteger.valueOf(part));
        }
        return sum;
    }

    private static void checksum() {
        String p = "promise 33, checksum: ";
        Edge.answers(p + "of a new object", new Hatpitch(), sum(0, 1), x -> x.checksum());
        Edge.answers(p + "of one act", Streets.of(0, 1), sum(0, 1, 0, 1), x -> x.checksum());
        Edge.answers(p + "of one pitch", Streets.of(1, 0), sum(0, 0, 0, 1), x -> x.checksum());
        Edge.answers(p + "of money below 0", fined(6), sum(-120, 1, 1, 0, 120, 1), x -> x.checksum());
        Edge.answers(p + "of eight turns", Streets.turns(8), sum(0, 1, 8, 0, 0, 1), x -> x.checksum());
        Edge.answers(p + "of the largest line, yard and z", Streets.with(new Hatpitch(), x -> {
            x.addPitch(99, 9, true);
            x.addAct(60, 9, 9, 9, true);
            x.seed(2147483646);
        }), sum(0, 9, 0, 99, 0, 2147483646), x -> x.checksum());
        Edge.answers(p + "turns are gone with the next day", Streets.played(Streets.turns(8)),
                "1 " + sum(0, 1, 0, 0, 0, 1), x -> Edge.row(x.nextDay(), x.checksum()));
    }

    private static void checksumWraps() {
        String p = "promise 33, checksum: ";
        long[] six = {0, 0, 0, 10, 0, 20, 0, 30, 0, 40, 0, 50, 0, 1};
        long[] full = {-120, 1, 0, 1, 0, 1, 0, 1, 0, 1, 0, 1, 0, 1, 0, 1,
            8, 0, 0, 10, 0, 20, 0, 30, 0, 40, 0, 50, 120, 2147483646};
        Edge.answers(p + "six pitches are too many for a long, and wrap around", Streets.of(6, 0), sum(six) + " true",
                x -> Edge.row(x.checksum(), big(six).bitLength() > 63));
        Edge.answers(p + "a full street wraps around again and again", fullStreet(), sum(full) + " true",
                x -> Edge.row(x.checksum(), big(full).bitLength() > 128));
    }

    /** Six pitches, eight acts, eight turns, six fines, and the largest z. */
    private static Hatpitch fullStreet() {
        Hatpitch x = Streets.of(6, 0);
        x.addAct(5, 0, 1, 1, true);
        for (int act = 1; act < 8; act++) {
            x.addAct(5, 0, 1, 1, false);
        }
        for (int turn = 1; turn < 8; turn++) {
            x.addTurn(0, 0);
        }
        x.seed(2147483646);
        return fined(x, 6);
    }

    private static void goodShare() {
        String p = "promise 34, goodShare: ";
        Edge.refuses(p + "not played", Streets.crowd(5, 9, 1), Edge.STATE, x -> x.goodShare());
        Edge.refuses(p + "a day not played ahead of no turns", new Hatpitch(), Edge.STATE, x -> x.goodShare());
        Edge.refuses(p + "no turns", Streets.played(Streets.of(6, 8)), Edge.ARITHMETIC, x -> x.goodShare());
        Edge.refuses(p + "no pitches", Streets.played(new Hatpitch()), Edge.ARITHMETIC, x -> x.goodShare());
        Edge.refuses(p + "not played on the next day", Streets.with(Streets.played(Streets.turns(8)),
                x -> x.nextDay()), Edge.STATE, x -> x.goodShare());
        Edge.answers(p + "one of one", Streets.played(Streets.turns(1)), 1.0f, x -> x.goodShare());
        Edge.answers(p + "eight of eight", Streets.played(Streets.turns(8)), 1.0f, x -> x.goodShare());
        Edge.answers(p + "none of one", broken(0), 0.0f, x -> x.goodShare());
        Edge.answers(p + "one of two", broken(1), 0.5f, x -> x.goodShare());
        Edge.answers(p + "two of three, no float to the letter", broken(2), 2f / 3f, x -> x.goodShare());
        Edge.answers(p + "six of seven on two pitches", Streets.with(brokenToBe(3), x -> {
            x.addPitch(0, 0, false);
            x.addAct(60, 0, 1, 1, false);
            x.addTurn(1, 1);
            x.addTurn(1, 1);
            x.addTurn(1, 1);
            x.play();
        }), 6f / 7f, x -> x.goodShare());
    }

    private static Hatpitch broken(int others) {
        return Streets.played(brokenToBe(others));
    }

    /** A first turn that breaks with 608, and others of the same act that do not. */
    private static Hatpitch brokenToBe(int others) {
        Hatpitch x = Streets.crowd(20, 9, 1);
        for (int turn = 0; turn < others; turn++) {
            x.addTurn(0, 0);
        }
        x.setRain(604, 608);
        return x;
    }

    private static void meanMoney() {
        String p = "promise 35, meanMoney: ";
        Edge.refuses(p + "no acts", new Hatpitch(), Edge.ARITHMETIC, x -> x.meanMoney());
        Edge.refuses(p + "no acts, but pitches and a day", Streets.played(Streets.of(6, 0)), Edge.ARITHMETIC,
                x -> x.meanMoney());
        Edge.answers(p + "of one act, at first", Streets.of(0, 1), 0.0, x -> x.meanMoney());
        Edge.answers(p + "of one act", Streets.played(Streets.crowd(5, 9, 1)), 500.0, x -> x.meanMoney());
        Edge.answers(p + "below 0", fined(6), -120.0, x -> x.meanMoney());
        Edge.answers(p + "of three, no double to the letter", among(3), 500.0 / 3.0, x -> x.meanMoney());
        Edge.answers(p + "of eight", among(8), 62.5, x -> x.meanMoney());
        Edge.answers(p + "before the day is played, too", Streets.crowd(5, 9, 1), 0.0, x -> x.meanMoney());
    }

    private static Hatpitch among(int acts) {
        Hatpitch x = Streets.crowd(5, 9, 1);
        for (int act = 1; act < acts; act++) {
            x.addAct(5, 0, 1, 1, false);
        }
        return Streets.played(x);
    }

    /** What no call can put wrong is put wrong from inside by SoundnessTest. */
    private static void isSound() {
        String p = "promise 36, isSound: ";
        Edge.answers(p + "a new object", new Hatpitch(), true, x -> x.isSound());
        Edge.answers(p + "a full street", fullStreet(), true, x -> x.isSound());
        Edge.answers(p + "money below 0 and fines", fined(6), true, x -> x.isSound());
        Edge.answers(p + "days that the diary has lost", days(11), true, x -> x.isSound());
        Edge.answers(p + "an order without places drawn", Streets.of(6, 0), "0 true", x -> Edge.row(
                x.drawLots(), x.isSound()));
        Edge.answers(p + "an order drawn by the customs of then", Streets.of(0, 8), "8 true true true true", x -> {
            x.addCustom(7, 0);
            return Edge.row(x.drawLots(), x.isSound(), x.endCustom(7, 0), x.addCustom(0, 7), x.isSound());
        });
        Edge.answers(p + "an order drawn of fewer acts than there are", Streets.of(0, 7), "7 7 true", x -> Edge.row(
                x.drawLots(), x.addAct(5, 0, 1, 1, false), x.isSound()));
        Edge.answers(p + "eight turns of the longest act", Streets.with(Streets.of(1, 0), x -> {
            x.addAct(60, 0, 1, 1, false);
            for (int turn = 0; turn < 8; turn++) {
                x.addTurn(0, 0);
            }
            x.play();
        }), true, x -> x.isSound());
        Edge.answers(p + "a rest that one act keeps", Streets.with(Streets.crowd(5, 1, 1), x -> {
            for (int act = 1; act < 8; act++) {
                x.join(0, x.addAct(5, 0, 1, 1, false));
            }
            x.play();
        }), "3 true", x -> Edge.row(x.money(0), x.isSound()));
    }
}
