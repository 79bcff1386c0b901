/** The examples at the end of the document's terms. */
public final class ExamplesTest {
    private ExamplesTest() {
    }

    public static void main(String[] args) {
        hat();
        orders();
        fine();
        Expect.end("ExamplesTest");
    }

    private static void hat() {
        Hatpitch x = new Hatpitch();
        Expect.same("addPitch(5, 0, false)", x.addPitch(5, 0, false), 0);
        Expect.same("setPassers(0, 10, 600)", x.setPassers(0, 10, 600), 0);
        Expect.same("addAct(5, 2, 9, 3, false)", x.addAct(5, 2, 9, 3, false), 0);
        Expect.same("addTurn(0, 0)", x.addTurn(0, 0), 1);
        Expect.same("play()", x.play(), 564);
        Expect.same("of(0, 0, 's')", x.of(0, 0, 's'), 51);
        Expect.same("of(0, 0, 'e')", x.of(0, 0, 'e'), 604);
    }

    private static void orders() {
        Hatpitch x = new Hatpitch();
        for (int act = 0; act < 3; act++) {
            Expect.same("addAct(5, 0, 1, 1, false)", x.addAct(5, 0, 1, 1, false), act);
        }
        Expect.same("addCustom(2, 0)", x.addCustom(2, 0), true);
        Expect.same("orders()", x.orders(), 3);
        Expect.same("orderAt(0, 0)", x.orderAt(0, 0), 1);
        Expect.same("orderAt(2, 0)", x.orderAt(2, 0), 2);
    }

    private static void fine() {
        Hatpitch x = new Hatpitch();
        Expect.same("addPitch(5, 0, false)", x.addPitch(5, 0, false), 0);
        Expect.same("addAct(5, 9, 1, 1, true)", x.addAct(5, 9, 1, 1, true), 0);
        Expect.same("addTurn(0, 0)", x.addTurn(0, 0), 1);
        Expect.same("setLaw(50, 0)", x.setLaw(50, 0), 99);
        Expect.same("addVisit(0, 602)", x.addVisit(0, 602), 1);
        Expect.same("play()", x.play(), 0);
        Expect.same("fineAt(0)", x.fineAt(0), 'f');
        Expect.same("sumAt(0)", x.sumAt(0), 30);
        Expect.same("money(0)", x.money(0), -30);
    }
}
