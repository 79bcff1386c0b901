import java.util.ArrayList;
import java.util.List;

/** The boundary cases of promises 10 to 18: orders, lots, z and turns. */
public final class OrdersEdgesTest {
    private OrdersEdgesTest() {
    }

    public static void main(String[] args) {
        orders();
        orderAt();
        orderAtByActs();
        drawLots();
        drawLotsByZ();
        lotAt();
        seed();
        addTurn();
        addTurnInOrder();
        turnsByLots();
        turnsByLotsRefused();
        exchange();
        exchangeRefused();
        exchangeByCustoms();
        turnAt();
        Edge.end("OrdersEdgesTest");
    }

    private static void orders() {
        String p = "promise 10, orders: ";
        Edge.answers(p + "without acts", Streets.of(6, 0), 1, x -> x.orders());
        Edge.answers(p + "of one act", Streets.of(0, 1), 1, x -> x.orders());
        Edge.answers(p + "of two acts", Streets.of(0, 2), 2, x -> x.orders());
        Edge.answers(p + "of seven acts", Streets.of(0, 7), 5040, x -> x.orders());
        Edge.answers(p + "of eight acts", Streets.of(0, 8), 40320, x -> x.orders());
        Edge.answers(p + "of eight acts in a row", row(8), 1, x -> x.orders());
        Edge.answers(p + "of eight acts with the first ahead of all", Streets.of(0, 8), 5040, x -> {
            for (int act = 1; act < 8; act++) {
                x.addCustom(0, act);
            }
            return x.orders();
        });
        Edge.answers(p + "of eight acts with all ahead of the first", Streets.of(0, 8), 5040, x -> {
            for (int act = 1; act < 8; act++) {
                x.addCustom(act, 0);
            }
            return x.orders();
        });
        Edge.answers(p + "of seven in a row and one more", row(7), "1 8", x -> Edge.row(
                x.orders(), x.addAct(5, 0, 1, 1, false) == 7 ? x.orders() : -1));
    }

    /** Acts of which each one comes ahead of the next one by a custom. */
    private static Hatpitch row(int acts) {
        Hatpitch x = Streets.of(0, acts);
        for (int act = 1; act < acts; act++) {
            x.addCustom(act - 1, act);
        }
        return x;
    }

    private static void orderAt() {
        String p = "promise 11, orderAt: ";
        Edge.range(p + "order of eight acts", 0, 40319, Edge.NONE, () -> Streets.of(0, 8), (x, n) -> x.orderAt(n, 0));
        Edge.range(p + "place of eight acts", 0, 7, Edge.NONE, () -> Streets.of(0, 8), (x, n) -> x.orderAt(0, n));
        Edge.range(p + "order of one act", 0, 0, Edge.NONE, () -> Streets.of(0, 1), (x, n) -> x.orderAt(n, 0));
        Edge.range(p + "place of one act", 0, 0, Edge.NONE, () -> Streets.of(0, 1), (x, n) -> x.orderAt(0, n));
        Edge.range(p + "order by a custom", 0, 2, Edge.NONE, () -> Streets.with(Streets.of(0, 3),
                x -> x.addCustom(2, 0)), (x, n) -> x.orderAt(n, 2));
        Edge.range(p + "order of a row", 0, 0, Edge.NONE, () -> row(8), (x, n) -> x.orderAt(n, 7));
        Edge.refuses(p + "without acts the order has no place", Streets.of(0, 0), Edge.NONE, x -> x.orderAt(0, 0));
        Edge.refuses(p + "without acts there is one order only", Streets.of(0, 0), Edge.NONE, x -> x.orderAt(1, 0));
        Edge.refuses(p + "neither such an order nor such a place", Streets.of(0, 2), Edge.NONE, x -> x.orderAt(2, 2));
        Edge.answers(p + "an act added later makes room", Streets.of(0, 1), "1 0", x -> {
            x.addAct(5, 0, 1, 1, false);
            return Edge.row(x.orderAt(1, 0), x.orderAt(1, 1));
        });
    }

    private static void orderAtByActs() {
        String p = "promise 11, orderAt: ";
        Edge.answers(p + "the first of eight acts", Streets.of(0, 8), "0 1 2 3 4 5 6 7", x -> orderOf(x, 0, 8));
        Edge.answers(p + "the second of eight acts", Streets.of(0, 8), "0 1 2 3 4 5 7 6", x -> orderOf(x, 1, 8));
        Edge.answers(p + "the last with act 0 ahead", Streets.of(0, 8), "0 7 6 5 4 3 2 1", x -> orderOf(x, 5039, 8));
        Edge.answers(p + "the first with act 1 ahead", Streets.of(0, 8), "1 0 2 3 4 5 6 7", x -> orderOf(x, 5040, 8));
        Edge.answers(p + "the last of eight acts", Streets.of(0, 8), "7 6 5 4 3 2 1 0", x -> orderOf(x, 40319, 8));
        Edge.answers(p + "the only one of a row", row(8), "0 1 2 3 4 5 6 7", x -> orderOf(x, 0, 8));
        Edge.answers(p + "all by a custom", Streets.with(Streets.of(0, 3), x -> x.addCustom(2, 0)),
                "1 2 0, 2 0 1, 2 1 0", x -> orderOf(x, 0, 3) + ", " + orderOf(x, 1, 3) + ", " + orderOf(x, 2, 3));
    }

    private static String orderOf(Hatpitch x, int order, int acts) {
        Object[] found = new Object[acts];
        for (int place = 0; place < acts; place++) {
            found[place] = x.orderAt(order, place);
        }
        return Edge.row(found);
    }

    private static void drawLots() {
        String p = "promise 12, drawLots: ";
        Edge.answers(p + "without acts", Streets.of(0, 0), 0, x -> x.drawLots());
        Edge.answers(p + "without acts z stays", Streets.of(0, 0), "0 1", x -> Edge.row(x.drawLots(), x.seed(9)));
        Edge.answers(p + "of one act z moves once", Streets.of(0, 1), "1 0 48271", x -> Edge.row(
                x.drawLots(), x.lotAt(0), x.seed(9)));
        Edge.answers(p + "of two acts z moves twice", Streets.of(0, 2), "2 182605794", x -> Edge.row(
                x.drawLots(), x.seed(9)));
        Edge.answers(p + "of eight acts in a row z moves eight times", row(8), "8 0 1 2 3 4 5 6 7 " + moved(1, 8),
                x -> Edge.row(x.drawLots(), lotsOf(x, 8), x.seed(9)));
        Edge.answers(p + "an act added behind it is drawn with the next", Streets.of(0, 7), "7 8", x -> {
            int before = x.drawLots();
            x.addAct(5, 0, 1, 1, false);
            return Edge.row(before, x.drawLots());
        });
        Edge.answers(p + "after the day was played, too", Streets.played(Streets.of(1, 2)), 2, x -> x.drawLots());
    }

    private static long moved(long z, int times) {
        long next = z;
        for (int i = 0; i < times; i++) {
            next = next * 48271 % 2147483647;
        }
        return next;
    }

    private static String lotsOf(Hatpitch x, int acts) {
        Object[] lots = new Object[acts];
        for (int place = 0; place < acts; place++) {
            lots[place] = x.lotAt(place);
        }
        return Edge.row(lots);
    }

    private static void drawLotsByZ() {
        String p = "promise 12, drawLots: ";
        Edge.answers(p + "from the largest z", Streets.of(0, 1), "1 2147435376", x -> {
            x.seed(2147483646);
            return Edge.row(x.drawLots(), x.seed(9));
        });
        for (int z : new int[] {1, 44488, 1073741824, 2147483646}) {
            for (int acts : new int[] {2, 3, 7, 8}) {
                Edge.answers(p + acts + " acts from z " + z, Streets.of(0, acts), byHand(z, acts), x -> {
                    x.seed(z);
                    return lotsOf(x, x.drawLots()) + ", " + x.seed(1);
                });
            }
        }
        Edge.answers(p + "of one that may be next it is that one", Streets.with(Streets.of(0, 3), x -> {
            x.addCustom(2, 0);
            x.addCustom(2, 1);
        }), 2, x -> x.drawLots() == 3 ? x.lotAt(0) : -1);
    }

    private static String byHand(long z, int acts) {
        List<Integer> left = new ArrayList<>();
        for (int act = 0; act < acts; act++) {
            left.add(act);
        }
        Object[] lots = new Object[acts];
        long next = z;
        for (int place = 0; place < acts; place++) {
            next = moved(next, 1);
            lots[place] = left.remove((int) (next % left.size()));
        }
        return Edge.row(lots) + ", " + next;
    }

    private static void lotAt() {
        String p = "promise 13, lotAt: ";
        Edge.range(p + "place of eight acts", 0, 7, Edge.NONE, () -> drawnOf(0, 8), (x, n) -> x.lotAt(n));
        Edge.range(p + "place of one act", 0, 0, Edge.NONE, () -> drawnOf(0, 1), (x, n) -> x.lotAt(n));
        Edge.refuses(p + "none was drawn", Streets.of(0, 8), Edge.NONE, x -> x.lotAt(0));
        Edge.refuses(p + "drawn without acts", drawnOf(0, 0), Edge.NONE, x -> x.lotAt(0));
        Edge.refuses(p + "of an act added later", Streets.with(drawnOf(0, 1), x -> x.addAct(5, 0, 1, 1, false)),
                Edge.NONE, x -> x.lotAt(1));
        Edge.refuses(p + "drawn without acts, an act added later", Streets.with(drawnOf(0, 0),
                x -> x.addAct(5, 0, 1, 1, false)), Edge.NONE, x -> x.lotAt(0));
        Edge.answers(p + "the order drawn last, not the one ahead", Streets.of(0, 2), "1 0", x -> {
            x.seed(1);
            x.drawLots();
            int first = x.lotAt(0);
            x.addCustom(0, 1);
            x.drawLots();
            return Edge.row(first, x.lotAt(0));
        });
        Edge.answers(p + "on the next day, too", drawnOf(0, 8), 0, x -> {
            int before = x.lotAt(7);
            x.play();
            x.nextDay();
            return before - x.lotAt(7);
        });
    }

    private static Hatpitch drawnOf(int pitches, int acts) {
        return Streets.with(Streets.of(pitches, acts), x -> x.drawLots());
    }

    private static void seed() {
        String p = "promise 14, seed: ";
        Edge.range(p + "z", 1, 2147483646, Edge.ARGUMENT, Hatpitch::new, (x, n) -> x.seed(n));
        Edge.answers(p + "1 before, at first", new Hatpitch(), 1, x -> x.seed(2147483646));
        Edge.answers(p + "the least and the most before", new Hatpitch(), "1 2147483646 1", x -> Edge.row(
                x.seed(2147483646), x.seed(1), x.seed(1)));
        Edge.answers(p + "the largest stands in the checksum", new Hatpitch(), 31L * 31 * 7 + 2147483646L, x -> {
            x.seed(2147483646);
            return x.checksum();
        });
    }

    private static void addTurn() {
        String p = "promise 15, addTurn: ";
        Edge.range(p + "pitch", 0, 5, Edge.INDEX, () -> Streets.of(6, 1), (x, n) -> x.addTurn(n, 0));
        Edge.range(p + "act", 0, 7, Edge.INDEX, () -> Streets.of(1, 8), (x, n) -> x.addTurn(0, n));
        Edge.refuses(p + "without pitches", Streets.of(0, 1), Edge.INDEX, x -> x.addTurn(0, 0));
        Edge.refuses(p + "without acts", Streets.of(1, 0), Edge.INDEX, x -> x.addTurn(0, 0));
        Edge.answers(p + "the first one", Streets.turns(0), 1, x -> x.addTurn(0, 0));
        Edge.answers(p + "the eighth", Streets.turns(7), 8, x -> x.addTurn(0, 0));
        Edge.refuses(p + "a ninth", Streets.turns(8), Edge.UNSUPPORTED, x -> x.addTurn(0, 0));
        Edge.answers(p + "each pitch has eight of its own", Streets.with(Streets.turns(8), x -> {
            x.addPitch(99, 0, false);
            x.addAct(5, 0, 1, 1, false);
        }), 1, x -> x.addTurn(1, 1));
        Edge.refuses(p + "an act of a pitch behind", Streets.with(Streets.of(6, 8), x -> x.addTurn(5, 7)),
                Edge.UNSUPPORTED, x -> x.addTurn(0, 7));
        Edge.refuses(p + "an act of a pitch ahead", Streets.with(Streets.of(6, 8), x -> x.addTurn(0, 7)),
                Edge.UNSUPPORTED, x -> x.addTurn(5, 7));
        Edge.refuses(p + "an act of another pitch's first turn", otherFirstAndLast(), Edge.UNSUPPORTED,
                x -> x.addTurn(1, 0));
        Edge.refuses(p + "an act of another pitch's eighth turn", otherFirstAndLast(), Edge.UNSUPPORTED,
                x -> x.addTurn(1, 1));
        Edge.answers(p + "on another pitch on the next day", Streets.with(Streets.of(2, 1), x -> {
            x.addTurn(0, 0);
            x.play();
            x.nextDay();
        }), 1, x -> x.addTurn(1, 0));
    }

    /** Pitch 0 has seven turns of act 0 and one of act 1; pitch 1 has none. */
    private static Hatpitch otherFirstAndLast() {
        return Streets.with(Streets.turns(7), x -> {
            x.addPitch(99, 0, false);
            x.addAct(5, 0, 1, 1, false);
            x.addTurn(0, 1);
        });
    }

    private static void addTurnInOrder() {
        String p = "promise 15, addTurn: ";
        Edge.refuses(p + "the day was played", Streets.played(Streets.of(1, 1)), Edge.STATE, x -> x.addTurn(0, 0));
        Edge.refuses(p + "no pitch ahead of a day played", Streets.played(Streets.of(1, 1)), Edge.INDEX,
                x -> x.addTurn(1, 0));
        Edge.refuses(p + "no act ahead of a day played", Streets.played(Streets.of(1, 1)), Edge.INDEX,
                x -> x.addTurn(0, 1));
        Edge.refuses(p + "no pitch ahead of an act elsewhere", Streets.turns(1), Edge.INDEX, x -> x.addTurn(-1, 0));
        Edge.refuses(p + "no act ahead of eight turns", Streets.turns(8), Edge.INDEX, x -> x.addTurn(0, -1));
        Edge.refuses(p + "a day played ahead of eight turns", Streets.played(Streets.turns(8)), Edge.STATE,
                x -> x.addTurn(0, 0));
        Edge.refuses(p + "a day played ahead of an act elsewhere", Streets.with(Streets.of(2, 1), x -> {
            x.addTurn(0, 0);
            x.play();
        }), Edge.STATE, x -> x.addTurn(1, 0));
    }

    private static void turnsByLots() {
        String p = "promise 16, turnsByLots: ";
        Edge.answers(p + "eight acts on one pitch", drawnOf(1, 8), "8 8",
                x -> Edge.row(x.turnsByLots(), turnsOf(x, 0)));
        Edge.answers(p + "eight acts on six pitches", drawnOf(6, 8), "8 2 2 1 1 1 1", x -> Edge.row(
                x.turnsByLots(), turnsOf(x, 0), turnsOf(x, 1), turnsOf(x, 2), turnsOf(x, 3), turnsOf(x, 4),
                turnsOf(x, 5)));
        Edge.answers(p + "the seventh and the eighth go round", drawnOf(6, 8), "true true", x -> {
            x.turnsByLots();
            return Edge.row(x.turnAt(0, 1) == x.lotAt(6), x.turnAt(1, 1) == x.lotAt(7));
        });
        Edge.answers(p + "one act on six pitches", drawnOf(6, 1), "1 1 0", x -> Edge.row(
                x.turnsByLots(), turnsOf(x, 0), turnsOf(x, 1)));
        Edge.answers(p + "an order without places", drawnOf(1, 0), 0, x -> x.turnsByLots());
        Edge.answers(p + "an order without places takes the turns told before", drawnOf(1, 0), "1 0 0", x -> {
            x.addAct(5, 0, 1, 1, false);
            return Edge.row(x.addTurn(0, 0), x.turnsByLots(), turnsOf(x, 0));
        });
        Edge.answers(p + "turns are gone on a pitch that gets none", drawnOf(6, 1), "8 1 0", x -> {
            for (int turn = 0; turn < 7; turn++) {
                x.addTurn(5, 0);
            }
            return Edge.row(x.addTurn(5, 0), x.turnsByLots(), turnsOf(x, 5));
        });
        Edge.answers(p + "again gives the same", drawnOf(1, 8), "8 8 8", x -> Edge.row(
                x.turnsByLots(), x.turnsByLots(), turnsOf(x, 0)));
        Edge.answers(p + "an act added later gets none", drawnOf(1, 7), "7 7", x -> {
            x.addAct(5, 0, 1, 1, false);
            return Edge.row(x.turnsByLots(), turnsOf(x, 0));
        });
    }

    private static void turnsByLotsRefused() {
        String p = "promise 16, turnsByLots: ";
        Edge.refuses(p + "none was drawn", Streets.of(1, 8), Edge.UNSUPPORTED, x -> x.turnsByLots());
        Edge.refuses(p + "no pitches", drawnOf(0, 8), Edge.UNSUPPORTED, x -> x.turnsByLots());
        Edge.refuses(p + "no pitches and an order without places", drawnOf(0, 0), Edge.UNSUPPORTED,
                x -> x.turnsByLots());
        Edge.refuses(p + "none was drawn, and turns told stay", Streets.turns(8), Edge.UNSUPPORTED,
                x -> x.turnsByLots());
        Edge.refuses(p + "the day was played", Streets.played(drawnOf(1, 1)), Edge.STATE, x -> x.turnsByLots());
        Edge.refuses(p + "a day played ahead of none drawn", Streets.played(Streets.of(1, 1)), Edge.STATE,
                x -> x.turnsByLots());
        Edge.refuses(p + "a day played ahead of no pitches", Streets.played(drawnOf(0, 1)), Edge.STATE,
                x -> x.turnsByLots());
    }

    private static int turnsOf(Hatpitch x, int pitch) {
        for (int turn = 0; turn < 20; turn++) {
            try {
                x.turnAt(pitch, turn);
            } catch (RuntimeException e) {
                return turn;
            }
        }
        return 20;
    }

    /** One pitch with a turn of each of its acts, by their numbers. */
    private static Hatpitch line(int acts) {
        Hatpitch x = Streets.of(1, acts);
        for (int act = 0; act < acts; act++) {
            x.addTurn(0, act);
        }
        return x;
    }

    private static void exchange() {
        String p = "promise 17, exchange: ";
        Edge.range(p + "pitch", 0, 0, Edge.INDEX, () -> line(1), (x, n) -> x.exchange(n, 0, 0));
        Edge.range(p + "turn", 0, 7, Edge.INDEX, () -> line(8), (x, n) -> x.exchange(0, n, 3));
        Edge.range(p + "other", 0, 7, Edge.INDEX, () -> line(8), (x, n) -> x.exchange(0, 3, n));
        Edge.answers(p + "the first and the last of eight", line(8), "true 7 1 6 0", x -> Edge.row(
                x.exchange(0, 0, 7), x.turnAt(0, 0), x.turnAt(0, 1), x.turnAt(0, 6), x.turnAt(0, 7)));
        Edge.answers(p + "the last and the first of eight", line(8), "true 7 0", x -> Edge.row(
                x.exchange(0, 7, 0), x.turnAt(0, 0), x.turnAt(0, 7)));
        Edge.answers(p + "the only turn with itself", line(1), "false 0", x -> Edge.row(
                x.exchange(0, 0, 0), x.turnAt(0, 0)));
        Edge.answers(p + "the last of eight with itself", line(8), "false 7", x -> Edge.row(
                x.exchange(0, 7, 7), x.turnAt(0, 7)));
        Edge.answers(p + "two turns of one act", Streets.turns(8), "false 0", x -> Edge.row(
                x.exchange(0, 0, 7), x.turnAt(0, 0)));
        Edge.answers(p + "twice is as before", line(8), "true true 0 7", x -> Edge.row(
                x.exchange(0, 0, 7), x.exchange(0, 0, 7), x.turnAt(0, 0), x.turnAt(0, 7)));
    }

    private static void exchangeRefused() {
        String p = "promise 17, exchange: ";
        Edge.refuses(p + "without pitches", Streets.of(0, 1), Edge.INDEX, x -> x.exchange(0, 0, 0));
        Edge.refuses(p + "a pitch without turns", Streets.of(1, 1), Edge.INDEX, x -> x.exchange(0, 0, 0));
        Edge.refuses(p + "a turn that only another pitch has", Streets.with(line(2), x -> x.addPitch(99, 0, false)),
                Edge.INDEX, x -> x.exchange(1, 0, 1));
        Edge.refuses(p + "the day was played", Streets.played(line(2)), Edge.STATE, x -> x.exchange(0, 0, 1));
        Edge.refuses(p + "the same turn on a day played", Streets.played(line(1)), Edge.STATE,
                x -> x.exchange(0, 0, 0));
        Edge.refuses(p + "no pitch ahead of a day played", Streets.played(line(2)), Edge.INDEX,
                x -> x.exchange(1, 0, 1));
        Edge.refuses(p + "no turn ahead of a day played", Streets.played(line(2)), Edge.INDEX,
                x -> x.exchange(0, 2, 1));
        Edge.refuses(p + "no other ahead of a day played", Streets.played(line(2)), Edge.INDEX,
                x -> x.exchange(0, 1, 2));
        Edge.refuses(p + "no pitch ahead of a custom against it", against(), Edge.INDEX, x -> x.exchange(1, 0, 1));
        Edge.refuses(p + "no turn ahead of a custom against it", against(), Edge.INDEX, x -> x.exchange(0, 2, 0));
        Edge.refuses(p + "no other ahead of a custom against it", against(), Edge.INDEX, x -> x.exchange(0, 0, -1));
        Edge.refuses(p + "a day played ahead of a custom against it", Streets.played(against()), Edge.STATE,
                x -> x.exchange(0, 0, 1));
    }

    /** Act 0 stands ahead of act 1, as it has to by a custom. */
    private static Hatpitch against() {
        return Streets.with(line(2), x -> x.addCustom(0, 1));
    }

    private static void exchangeByCustoms() {
        String p = "promise 17, exchange: ";
        Edge.refuses(p + "a custom against two neighbours", against(), Edge.UNSUPPORTED, x -> x.exchange(0, 0, 1));
        Edge.refuses(p + "a custom against the first and the last of eight", Streets.with(line(8),
                x -> x.addCustom(0, 7)), Edge.UNSUPPORTED, x -> x.exchange(0, 7, 0));
        Edge.refuses(p + "a custom of the first and one between", Streets.with(line(8), x -> x.addCustom(0, 6)),
                Edge.UNSUPPORTED, x -> x.exchange(0, 0, 7));
        Edge.refuses(p + "a custom of one between and the last", Streets.with(line(8), x -> x.addCustom(1, 7)),
                Edge.UNSUPPORTED, x -> x.exchange(0, 0, 7));
        Edge.refuses(p + "two others that stood so before", Streets.with(line(4), x -> x.addCustom(3, 2)),
                Edge.UNSUPPORTED, x -> x.exchange(0, 0, 1));
        Edge.refuses(p + "the same turn where others stood so before", Streets.with(line(2),
                x -> x.addCustom(1, 0)), Edge.UNSUPPORTED, x -> x.exchange(0, 0, 0));
        Edge.answers(p + "an exchange that mends it", Streets.with(line(2), x -> x.addCustom(1, 0)), "true 1 0",
                x -> Edge.row(x.exchange(0, 0, 1), x.turnAt(0, 0), x.turnAt(0, 1)));
        Edge.answers(p + "a custom kept by the last turn", against(), "false", x -> Edge.row(x.exchange(0, 1, 1)));
        Edge.answers(p + "a custom that was ended", against(), "true true", x -> Edge.row(
                x.endCustom(0, 1), x.exchange(0, 0, 1)));
        for (int here = 0; here < 2; here++) {
            int pitch = here;
            Edge.answers(p + "on pitch " + here + ", acts of the other pitch that stand so", Streets.with(
                    Streets.of(2, 4), x -> {
                        for (int act = 0; act < 4; act++) {
                            x.addTurn(act < 2 ? pitch : 1 - pitch, act);
                        }
                        x.addCustom(3, 2);
                        x.addCustom(2, 0);
                    }), true, x -> x.exchange(pitch, 0, 1));
        }
        Edge.answers(p + "a custom that only follows, by an act not there", Streets.with(Streets.of(1, 3), x -> {
            x.addTurn(0, 0);
            x.addTurn(0, 2);
            x.addCustom(0, 1);
            x.addCustom(1, 2);
        }), true, x -> x.exchange(0, 0, 1));
        Edge.refuses(p + "an act's second turn behind the other one", Streets.with(Streets.of(1, 2), x -> {
            x.addTurn(0, 0);
            x.addTurn(0, 1);
            x.addTurn(0, 0);
            x.addCustom(0, 1);
        }), Edge.UNSUPPORTED, x -> x.exchange(0, 0, 2));
    }

    private static void turnAt() {
        String p = "promise 18, turnAt: ";
        Edge.range(p + "pitch", 0, 0, Edge.INDEX, () -> line(1), (x, n) -> x.turnAt(n, 0));
        Edge.range(p + "turn", 0, 7, Edge.NONE, () -> line(8), (x, n) -> x.turnAt(0, n));
        Edge.range(p + "the only turn", 0, 0, Edge.NONE, () -> line(1), (x, n) -> x.turnAt(0, n));
        Edge.refuses(p + "without pitches", Streets.of(0, 1), Edge.INDEX, x -> x.turnAt(0, 0));
        Edge.refuses(p + "a pitch without turns", Streets.of(1, 1), Edge.NONE, x -> x.turnAt(0, 0));
        Edge.refuses(p + "no pitch ahead of no turn", line(1), Edge.INDEX, x -> x.turnAt(1, 1));
        Edge.refuses(p + "a pitch below 0 ahead of no turn", line(1), Edge.INDEX, x -> x.turnAt(-1, -1));
        Edge.answers(p + "the last of the sixth pitch", Streets.with(Streets.of(6, 8), x -> x.addTurn(5, 7)), 7,
                x -> x.turnAt(5, 0));
        Edge.answers(p + "after the day was played, too", Streets.played(line(8)), 7, x -> x.turnAt(0, 7));
        Edge.refuses(p + "gone with the next day", Streets.with(Streets.played(line(8)), x -> x.nextDay()),
                Edge.NONE, x -> x.turnAt(0, 0));
    }
}
