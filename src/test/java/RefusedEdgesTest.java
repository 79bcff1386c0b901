/** Each refused call once more, on a street where nothing is as it is at first: all has to stay as it was. */
public final class RefusedEdgesTest {
    private RefusedEdgesTest() {
    }

    public static void main(String[] args) {
        pitchesAndActs();
        customsAndLots();
        turnsUnplayed();
        turnsPlayed();
        settings();
        asked();
        askedOfTheDay();
        Edge.end("RefusedEdgesTest");
    }

    /** Full of pitches, acts, turns and visits, in rain and cold, with a diary of two days, and not played. */
    private static Hatpitch busy() {
        Hatpitch x = Streets.of(0, 0);
        for (int pitch = 0; pitch < 6; pitch++) {
            x.addPitch(5 + 15 * pitch, pitch, pitch % 2 == 1);
            x.setPassers(pitch, 10, 600 - 10 * pitch);
        }
        for (int act = 0; act < 8; act++) {
            x.addAct(5 + act, act, 1 + act, 9 - act, act % 2 == 0);
            x.setPermit(act, act % 4 == 0);
        }
        x.addCustom(7, 0);
        x.addCustom(0, 3);
        x.join(2, 5);
        x.setCold(13);
        x.setLaw(41, 17);
        for (int day = 0; day < 2; day++) {
            x.drawLots();
            x.turnsByLots();
            x.addVisit(day, 602);
            x.play();
            x.nextDay();
        }
        return dayTold(x);
    }

    private static Hatpitch dayTold(Hatpitch x) {
        for (int turn = 0; turn < 8; turn++) {
            x.addTurn(0, turn < 4 ? 7 : 0);
        }
        x.addTurn(1, 2);
        for (int visit = 0; visit < 6; visit++) {
            x.addVisit(visit % 2, 600 + visit);
        }
        x.setRain(604, 700);
        return x;
    }

    private static Hatpitch busyPlayed() {
        return Streets.played(busy());
    }

    private static void both(String call, Class<? extends RuntimeException> due, Edge.Ask refused) {
        Edge.refuses(call + ", not played", busy(), due, refused);
        Edge.refuses(call + ", played", busyPlayed(), due, refused);
    }

    private static void pitchesAndActs() {
        both("promise 2, addPitch: busy, out of range", Edge.ARGUMENT, x -> x.addPitch(1, 10, true));
        both("promise 2, addPitch: busy, a pitch there", Edge.UNSUPPORTED, x -> x.addPitch(80, 9, true));
        both("promise 2, addPitch: busy, a seventh", Edge.STATE, x -> x.addPitch(81, 9, true));
        both("promise 3, setPassers: busy, no pitch", Edge.INDEX, x -> x.setPassers(6, 10, 7));
        both("promise 3, setPassers: busy, no hour", Edge.ARGUMENT, x -> x.setPassers(5, 20, 7));
        both("promise 3, setPassers: busy, too many", Edge.ARGUMENT, x -> x.setPassers(5, 10, 601));
        both("promise 4, passersAt: busy, no pitch", Edge.INDEX, x -> x.passersAt(6, 600));
        both("promise 4, passersAt: busy, no minute", Edge.ARGUMENT, x -> x.passersAt(5, 1200));
        both("promise 5, addAct: busy, out of range", Edge.ARGUMENT, x -> x.addAct(5, 0, 1, 10, true));
        both("promise 5, addAct: busy, a ninth", Edge.STATE, x -> x.addAct(5, 0, 1, 1, true));
        both("promise 6, setLine: busy, no act", Edge.INDEX, x -> x.setLine(8, 1));
        both("promise 6, setLine: busy, out of range", Edge.ARGUMENT, x -> x.setLine(7, 10));
        both("promise 7, setPermit: busy, no act", Edge.INDEX, x -> x.setPermit(8, false));
    }

    private static void customsAndLots() {
        both("promise 8, addCustom: busy, no act", Edge.INDEX, x -> x.addCustom(8, 0));
        both("promise 8, addCustom: busy, no other", Edge.INDEX, x -> x.addCustom(0, 8));
        both("promise 8, addCustom: busy, both the same", Edge.ARGUMENT, x -> x.addCustom(4, 4));
        both("promise 8, addCustom: busy, a ring", Edge.UNSUPPORTED, x -> x.addCustom(3, 7));
        both("promise 9, endCustom: busy, no act", Edge.INDEX, x -> x.endCustom(8, 0));
        both("promise 9, endCustom: busy, no other", Edge.INDEX, x -> x.endCustom(7, 8));
        both("promise 11, orderAt: busy, no order", Edge.NONE, x -> x.orderAt(6720, 0));
        both("promise 11, orderAt: busy, no place", Edge.NONE, x -> x.orderAt(6719, 8));
        both("promise 13, lotAt: busy, no place", Edge.NONE, x -> x.lotAt(8));
        both("promise 14, seed: busy, out of range", Edge.ARGUMENT, x -> x.seed(0));
        both("promise 23, join: busy, no act", Edge.INDEX, x -> x.join(8, 0));
        both("promise 23, join: busy, no other", Edge.INDEX, x -> x.join(0, 8));
        both("promise 23, join: busy, both the same", Edge.ARGUMENT, x -> x.join(2, 2));
    }

    private static void turnsUnplayed() {
        both("promise 15, addTurn: busy, no pitch", Edge.INDEX, x -> x.addTurn(6, 0));
        both("promise 15, addTurn: busy, no act", Edge.INDEX, x -> x.addTurn(5, 8));
        Edge.refuses("promise 15, addTurn: busy, an act elsewhere", busy(), Edge.UNSUPPORTED, x -> x.addTurn(5, 0));
        Edge.refuses("promise 15, addTurn: busy, a ninth", busy(), Edge.UNSUPPORTED, x -> x.addTurn(0, 7));
        both("promise 17, exchange: busy, no pitch", Edge.INDEX, x -> x.exchange(6, 0, 0));
        both("promise 17, exchange: busy, no turn", Edge.INDEX, x -> x.exchange(0, 8, 0));
        both("promise 17, exchange: busy, no other", Edge.INDEX, x -> x.exchange(0, 0, 8));
        Edge.refuses("promise 17, exchange: busy, a custom against it", busy(), Edge.UNSUPPORTED,
                x -> x.exchange(0, 3, 4));
        both("promise 18, turnAt: busy, no pitch", Edge.INDEX, x -> x.turnAt(6, 0));
        both("promise 18, turnAt: busy, no turn", Edge.NONE, x -> x.turnAt(0, 8));
        Edge.refuses("promise 31, nextDay: busy, not played", busy(), Edge.STATE, x -> x.nextDay());
    }

    private static void turnsPlayed() {
        Edge.refuses("promise 15, addTurn: busy, played", busyPlayed(), Edge.STATE, x -> x.addTurn(5, 6));
        Edge.refuses("promise 16, turnsByLots: busy, played", busyPlayed(), Edge.STATE, x -> x.turnsByLots());
        Edge.refuses("promise 17, exchange: busy, played", busyPlayed(), Edge.STATE, x -> x.exchange(0, 0, 1));
        Edge.refuses("promise 22, addVisit: busy, played", busyPlayed(), Edge.STATE, x -> x.addVisit(0, 600));
        Edge.refuses("promise 24, play: busy, played", busyPlayed(), Edge.STATE, x -> x.play());
    }

    private static void settings() {
        both("promise 19, setRain: busy, from too small", Edge.ARGUMENT, x -> x.setRain(599, 700));
        both("promise 19, setRain: busy, to too large", Edge.ARGUMENT, x -> x.setRain(600, 1200));
        both("promise 19, setRain: busy, to less than from", Edge.ARGUMENT, x -> x.setRain(605, 604));
        both("promise 20, setCold: busy, out of range", Edge.ARGUMENT, x -> x.setCold(41));
        both("promise 21, setLaw: busy, no limit", Edge.ARGUMENT, x -> x.setLaw(100, 5));
        both("promise 21, setLaw: busy, no distance", Edge.ARGUMENT, x -> x.setLaw(5, 100));
        both("promise 22, addVisit: busy, no pitch", Edge.INDEX, x -> x.addVisit(6, 600));
        both("promise 22, addVisit: busy, no minute", Edge.ARGUMENT, x -> x.addVisit(5, 1200));
        Edge.refuses("promise 22, addVisit: busy, a seventh", busy(), Edge.STATE, x -> x.addVisit(5, 600));
    }

    private static void asked() {
        both("promise 25, of: busy, no pitch", Edge.INDEX, x -> x.of(6, 0, 'b'));
        both("promise 25, of: busy, no such thing", Edge.ARGUMENT, x -> x.of(0, 0, 'B'));
        both("promise 26, isBroken: busy, no pitch", Edge.INDEX, x -> x.isBroken(6, 0));
        both("promise 29, money: busy, no act", Edge.INDEX, x -> x.money(8));
        both("promise 32, diary: busy, today", Edge.NONE, x -> x.diary(0));
        both("promise 32, diary: busy, a line too far", Edge.NONE, x -> x.diary(3));
    }

    private static void askedOfTheDay() {
        Edge.refuses("promise 25, of: busy, not played", busy(), Edge.STATE, x -> x.of(0, 0, 'b'));
        Edge.refuses("promise 25, of: busy, no turn", busyPlayed(), Edge.NONE, x -> x.of(0, 8, 'b'));
        Edge.refuses("promise 26, isBroken: busy, not played", busy(), Edge.STATE, x -> x.isBroken(0, 0));
        Edge.refuses("promise 26, isBroken: busy, no turn", busyPlayed(), Edge.NONE, x -> x.isBroken(1, 1));
        Edge.refuses("promise 27, fineAt: busy, not played", busy(), Edge.STATE, x -> x.fineAt(0));
        Edge.refuses("promise 27, fineAt: busy, no visit", busyPlayed(), Edge.NONE, x -> x.fineAt(6));
        Edge.refuses("promise 28, sumAt: busy, not played", busy(), Edge.STATE, x -> x.sumAt(0));
        Edge.refuses("promise 28, sumAt: busy, no visit", busyPlayed(), Edge.NONE, x -> x.sumAt(6));
        Edge.refuses("promise 34, goodShare: busy, not played", busy(), Edge.STATE, x -> x.goodShare());
    }
}
