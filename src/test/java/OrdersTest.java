import java.util.NoSuchElementException;

/** Promises 10 to 18: orders, lots and turns. */
public final class OrdersTest {
    private static final Class<IllegalArgumentException> ARGUMENT = IllegalArgumentException.class;
    private static final Class<IllegalStateException> STATE = IllegalStateException.class;
    private static final Class<IndexOutOfBoundsException> INDEX = IndexOutOfBoundsException.class;
    private static final Class<UnsupportedOperationException> UNSUPPORTED = UnsupportedOperationException.class;
    private static final Class<NoSuchElementException> NONE = NoSuchElementException.class;

    private OrdersTest() {
    }

    public static void main(String[] args) {
        orders();
        orderAt();
        drawLots();
        drawnThen();
        lotAt();
        seed();
        addTurn();
        turnsByLots();
        exchange();
        exchangeAgainstCustoms();
        turnAt();
        Expect.end("OrdersTest");
    }

    private static Hatpitch street(int pitches, int acts) {
        Hatpitch x = new Hatpitch();
        for (int pitch = 0; pitch < pitches; pitch++) {
            x.addPitch(pitch, 0, false);
        }
        for (int act = 0; act < acts; act++) {
            x.addAct(5, 0, 1, 1, false);
        }
        return x;
    }

    private static void orders() {
        Expect.same("without acts", street(0, 0).orders(), 1);
        int due = 1;
        for (int acts = 1; acts <= 8; acts++) {
            due *= acts;
            Expect.same("orders of " + acts, street(0, acts).orders(), due);
        }
        Hatpitch x = street(0, 8);
        x.addCustom(7, 0);
        Expect.same("one custom of eight acts", x.orders(), 20160);
        x.addCustom(6, 0);
        Expect.same("two ahead of one", x.orders(), 13440);
        x.endCustom(7, 0);
        x.endCustom(6, 0);
        Expect.same("all again", x.orders(), 40320);
        Hatpitch y = street(0, 2);
        y.addCustom(0, 1);
        y.addAct(5, 0, 1, 1, false);
        Expect.same("an act more", y.orders(), 3);
    }

    private static void orderAt() {
        Hatpitch none = street(0, 0);
        Expect.refuses("no place", none, NONE, () -> none.orderAt(0, 0));
        Hatpitch x = street(0, 3);
        int[][] due = {{0, 1, 2}, {0, 2, 1}, {1, 0, 2}, {1, 2, 0}, {2, 0, 1}, {2, 1, 0}};
        showOrders(x, due);
        x.addCustom(2, 0);
        showOrders(x, new int[][] {{1, 2, 0}, {2, 0, 1}, {2, 1, 0}});
        Expect.refuses("order 3", x, NONE, () -> x.orderAt(3, 0));
        Expect.refuses("order -1", x, NONE, () -> x.orderAt(-1, 0));
        Expect.refuses("place 3", x, NONE, () -> x.orderAt(0, 3));
        Expect.refuses("place -1", x, NONE, () -> x.orderAt(0, -1));
        Hatpitch y = street(0, 8);
        for (int place = 0; place < 8; place++) {
            Expect.same("the first of all", y.orderAt(0, place), place);
            Expect.same("the last of all", y.orderAt(40319, place), 7 - place);
        }
        Expect.refuses("order 40320", y, NONE, () -> y.orderAt(40320, 0));
    }

    private static void showOrders(Hatpitch x, int[][] due) {
        Expect.same("orders()", x.orders(), due.length);
        for (int order = 0; order < due.length; order++) {
            for (int place = 0; place < due[order].length; place++) {
                Expect.same("orderAt(" + order + ", " + place + ")", x.orderAt(order, place), due[order][place]);
            }
        }
    }

    /** By hand: z becomes 48271, 182605794, 1291394886; modulo 3, 2 and 1 these are 1, 0 and 0. */
    private static void drawLots() {
        Hatpitch x = street(0, 3);
        Expect.same("drawLots()", x.drawLots(), 3);
        Expect.same("lotAt(0)", x.lotAt(0), 1);
        Expect.same("lotAt(1)", x.lotAt(1), 0);
        Expect.same("lotAt(2)", x.lotAt(2), 2);
        Expect.same("z behind three draws", x.seed(2147483646), 1291394886);
        x.addCustom(2, 0);
        x.addCustom(1, 2);
        Expect.same("drawLots()", x.drawLots(), 3);
        Expect.same("by customs", x.lotAt(0), 1);
        Expect.same("by customs", x.lotAt(1), 2);
        Expect.same("by customs", x.lotAt(2), 0);
        long z = 2147483646L;
        for (int draw = 0; draw < 3; draw++) {
            z = z * 48271 % 2147483647;
        }
        Expect.same("z, drawn of one too", x.seed(1), z);
        Hatpitch none = street(1, 0);
        Expect.same("without acts", none.drawLots(), 0);
        Expect.same("z stays", none.seed(1), 1);
        Expect.same("no turns", none.turnsByLots(), 0);
        Expect.same("sound", none.isSound(), true);
    }

    private static void drawnThen() {
        Hatpitch x = street(1, 2);
        x.addCustom(1, 0);
        x.drawLots();
        x.endCustom(1, 0);
        x.addCustom(0, 1);
        x.addAct(5, 0, 1, 1, false);
        Expect.same("sound by the customs of then", x.isSound(), true);
        Expect.same("the drawn order stays", x.lotAt(0), 1);
        Expect.refuses("of three only two were drawn", x, NONE, () -> x.lotAt(2));
        Expect.same("the drawn ones only", x.turnsByLots(), 2);
        Expect.same("turn 0", x.turnAt(0, 0), 1);
        Expect.same("turn 1", x.turnAt(0, 1), 0);
    }

    private static void lotAt() {
        Hatpitch x = street(0, 1);
        Expect.refuses("none drawn", x, NONE, () -> x.lotAt(0));
        x.drawLots();
        Expect.same("lotAt(0)", x.lotAt(0), 0);
        Expect.refuses("place -1", x, NONE, () -> x.lotAt(-1));
        Expect.refuses("place 1", x, NONE, () -> x.lotAt(1));
        Hatpitch none = street(0, 0);
        none.drawLots();
        Expect.refuses("an order without places", none, NONE, () -> none.lotAt(0));
    }

    private static void seed() {
        Hatpitch x = street(0, 2);
        Expect.same("seed(2147483646)", x.seed(2147483646), 1);
        Expect.refuses("seed(0)", x, ARGUMENT, () -> x.seed(0));
        Expect.refuses("seed(-1)", x, ARGUMENT, () -> x.seed(-1));
        Expect.refuses("seed(2147483647)", x, ARGUMENT, () -> x.seed(2147483647));
        Expect.same("seed(44488)", x.seed(44488), 2147483646);
        x.drawLots();
        Expect.same("48271 times 44488 is 1, and 48271 is odd", x.lotAt(0), 44488L * 48271 % 2147483647 % 2);
    }

    private static void addTurn() {
        Hatpitch x = street(2, 2);
        Expect.same("addTurn(0, 0)", x.addTurn(0, 0), 1);
        Expect.same("addTurn(0, 0) again", x.addTurn(0, 0), 2);
        Expect.refuses("the act on another pitch", x, UNSUPPORTED, () -> x.addTurn(1, 0));
        Expect.same("addTurn(1, 1)", x.addTurn(1, 1), 1);
        Expect.refuses("the act on a pitch before", x, UNSUPPORTED, () -> x.addTurn(0, 1));
        Expect.refuses("no such pitch", x, INDEX, () -> x.addTurn(2, 0));
        Expect.refuses("no such act", x, INDEX, () -> x.addTurn(0, 2));
        for (int turns = 3; turns <= 8; turns++) {
            Expect.same("addTurn", x.addTurn(0, 0), turns);
        }
        Expect.refuses("a ninth turn", x, UNSUPPORTED, () -> x.addTurn(0, 0));
        x.play();
        Expect.refuses("played, and a ninth", x, STATE, () -> x.addTurn(0, 0));
        Expect.refuses("played, and elsewhere", x, STATE, () -> x.addTurn(1, 0));
        Expect.refuses("played, no such act", x, INDEX, () -> x.addTurn(0, -1));
        x.nextDay();
        Expect.same("on another pitch on another day", x.addTurn(1, 0), 1);
    }

    private static void turnsByLots() {
        Hatpitch empty = street(0, 1);
        Expect.refuses("none drawn", empty, UNSUPPORTED, empty::turnsByLots);
        empty.drawLots();
        Expect.refuses("no pitches", empty, UNSUPPORTED, empty::turnsByLots);
        Hatpitch x = street(2, 3);
        Expect.refuses("none drawn", x, UNSUPPORTED, x::turnsByLots);
        x.addTurn(1, 1);
        x.drawLots();
        Expect.same("turnsByLots()", x.turnsByLots(), 3);
        Expect.same("turnAt(0, 0)", x.turnAt(0, 0), 1);
        Expect.same("turnAt(1, 0)", x.turnAt(1, 0), 0);
        Expect.same("turnAt(0, 1)", x.turnAt(0, 1), 2);
        Expect.refuses("turns told before are gone", x, NONE, () -> x.turnAt(1, 1));
        Expect.same("again", x.turnsByLots(), 3);
        Expect.same("sound", x.isSound(), true);
        x.play();
        Expect.refuses("played", x, STATE, x::turnsByLots);
        x.nextDay();
        Expect.same("the next day", x.turnsByLots(), 3);
        Hatpitch undrawn = street(0, 0);
        undrawn.play();
        Expect.refuses("played, none drawn", undrawn, STATE, undrawn::turnsByLots);
    }

    private static void exchange() {
        Hatpitch x = street(2, 3);
        x.addTurn(0, 0);
        x.addTurn(0, 1);
        x.addTurn(0, 0);
        x.addTurn(1, 2);
        Expect.same("unlike acts", x.exchange(0, 0, 1), true);
        Expect.same("turnAt(0, 0)", x.turnAt(0, 0), 1);
        Expect.same("turnAt(0, 1)", x.turnAt(0, 1), 0);
        Expect.same("the same act", x.exchange(0, 1, 2), false);
        Expect.same("the same turn", x.exchange(0, 0, 0), false);
        Expect.refuses("no such pitch", x, INDEX, () -> x.exchange(2, 0, 0));
        Expect.refuses("no such turn", x, INDEX, () -> x.exchange(0, 3, 0));
        Expect.refuses("no such other", x, INDEX, () -> x.exchange(0, 0, -1));
        Expect.refuses("a turn of another pitch's length", x, INDEX, () -> x.exchange(1, 0, 1));
        x.play();
        Expect.refuses("played", x, STATE, () -> x.exchange(0, 0, 1));
        Expect.refuses("played, no such turn", x, INDEX, () -> x.exchange(0, 0, 3));
    }

    private static void exchangeAgainstCustoms() {
        Hatpitch x = street(1, 4);
        x.addTurn(0, 0);
        x.addTurn(0, 1);
        x.addTurn(0, 2);
        x.addCustom(0, 1);
        Expect.refuses("neighbours", x, UNSUPPORTED, () -> x.exchange(0, 0, 1));
        Expect.refuses("one behind the other", x, UNSUPPORTED, () -> x.exchange(0, 2, 0));
        Expect.same("the custom holds", x.exchange(0, 1, 2), true);
        Expect.same("the order", x.turnAt(0, 1), 2);
        x.endCustom(0, 1);
        x.addCustom(1, 0);
        Expect.refuses("they stood so before", x, UNSUPPORTED, () -> x.exchange(0, 0, 0));
        Expect.refuses("others, as they stood so before", x, UNSUPPORTED, () -> x.exchange(0, 0, 1));
        Expect.same("mended", x.exchange(0, 0, 2), true);
        x.play();
        Expect.refuses("played, against a custom", x, STATE, () -> x.exchange(0, 0, 2));
        Hatpitch y = street(1, 3);
        y.addTurn(0, 2);
        y.addTurn(0, 1);
        y.addCustom(1, 0);
        y.addCustom(0, 2);
        Expect.same("no custom of their own", y.exchange(0, 0, 0), false);
        Hatpitch z = street(1, 2);
        z.addTurn(0, 0);
        z.addTurn(0, 1);
        z.addTurn(0, 0);
        z.addCustom(0, 1);
        Expect.refuses("an act's second turn stands behind", z, UNSUPPORTED, () -> z.exchange(0, 0, 2));
        Expect.same("both its turns ahead", z.exchange(0, 1, 2), true);
    }

    private static void turnAt() {
        Hatpitch x = street(1, 2);
        Expect.refuses("no turns", x, NONE, () -> x.turnAt(0, 0));
        x.addTurn(0, 1);
        Expect.same("turnAt(0, 0)", x.turnAt(0, 0), 1);
        Expect.refuses("no such turn", x, NONE, () -> x.turnAt(0, 1));
        Expect.refuses("a turn below 0", x, NONE, () -> x.turnAt(0, -1));
        Expect.refuses("no such pitch", x, INDEX, () -> x.turnAt(1, 0));
        Expect.refuses("no such pitch, no turn", x, INDEX, () -> x.turnAt(-1, -1));
    }
}
