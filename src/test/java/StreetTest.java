/** Promises 1 to 9: pitches, passers, acts, lines, permits and customs. */
public final class StreetTest {
    private static final Class<IllegalArgumentException> ARGUMENT = IllegalArgumentException.class;
    private static final Class<IllegalStateException> STATE = IllegalStateException.class;
    private static final Class<IndexOutOfBoundsException> INDEX = IndexOutOfBoundsException.class;
    private static final Class<UnsupportedOperationException> UNSUPPORTED = UnsupportedOperationException.class;

    private StreetTest() {
    }

    public static void main(String[] args) {
        newObject();
        addPitch();
        setPassers();
        passersAt();
        addAct();
        setLine();
        setPermit();
        addCustom();
        longRings();
        endCustom();
        Expect.end("StreetTest");
    }

    private static Hatpitch actsOnly(int acts) {
        Hatpitch x = new Hatpitch();
        for (int act = 0; act < acts; act++) {
            x.addAct(5, 0, 1, 1, false);
        }
        return x;
    }

    private static void newObject() {
        Hatpitch x = new Hatpitch();
        Expect.refuses("passersAt without pitches", x, INDEX, () -> x.passersAt(0, 600));
        Expect.refuses("money without acts", x, INDEX, () -> x.money(0));
        Expect.same("orders() of a new one", x.orders(), 1);
        Expect.same("fines() of a new one", x.fines(), 0);
        Expect.same("checksum() of a new one", x.checksum(), (7L * 31 + 0) * 31 + 1);
        Expect.same("isSound() of a new one", x.isSound(), true);
        Expect.same("the cold at first", x.setCold(3), 0);
        Expect.same("the limit at first", x.setLaw(3, 4), 99);
        Expect.same("the rain at first", x.setRain(700, 700), 0);
        Expect.same("z at first", x.seed(5), 1);
        Hatpitch y = new Hatpitch();
        Expect.same("the cold of another one", y.setCold(1), 0);
    }

    private static void addPitch() {
        Hatpitch x = new Hatpitch();
        Expect.refuses("addPitch(-1, 0)", x, ARGUMENT, () -> x.addPitch(-1, 0, false));
        Expect.refuses("addPitch(100, 0)", x, ARGUMENT, () -> x.addPitch(100, 0, false));
        Expect.refuses("addPitch(0, -1)", x, ARGUMENT, () -> x.addPitch(0, -1, false));
        Expect.refuses("addPitch(0, 10)", x, ARGUMENT, () -> x.addPitch(0, 10, true));
        Expect.same("addPitch(99, 9, true)", x.addPitch(99, 9, true), 0);
        Expect.same("addPitch(0, 0, false)", x.addPitch(0, 0, false), 1);
        Expect.refuses("a pitch there, echo wrong", x, ARGUMENT, () -> x.addPitch(0, 10, false));
        Expect.refuses("a pitch there", x, UNSUPPORTED, () -> x.addPitch(99, 0, false));
        for (int pitch = 2; pitch < 6; pitch++) {
            Expect.same("addPitch", x.addPitch(10 * pitch, pitch, false), pitch);
        }
        Expect.refuses("a seventh, a pitch there", x, UNSUPPORTED, () -> x.addPitch(20, 0, false));
        Expect.refuses("a seventh", x, STATE, () -> x.addPitch(21, 0, false));
        Expect.refuses("a seventh, out of range", x, ARGUMENT, () -> x.addPitch(100, 0, false));
    }

    private static void setPassers() {
        Hatpitch x = new Hatpitch();
        x.addPitch(1, 0, false);
        Expect.same("setPassers(0, 10, 600)", x.setPassers(0, 10, 600), 0);
        Expect.same("setPassers(0, 19, 7)", x.setPassers(0, 19, 7), 0);
        Expect.same("setPassers(0, 19, 0)", x.setPassers(0, 19, 0), 7);
        Expect.same("setPassers(0, 10, 1)", x.setPassers(0, 10, 1), 600);
        Expect.refuses("no pitch, no hour", x, INDEX, () -> x.setPassers(1, 9, 1));
        Expect.refuses("a pitch below 0", x, INDEX, () -> x.setPassers(-1, 10, 1));
        Expect.refuses("hour 9", x, ARGUMENT, () -> x.setPassers(0, 9, 1));
        Expect.refuses("hour 20", x, ARGUMENT, () -> x.setPassers(0, 20, 1));
        Expect.refuses("-1 passers", x, ARGUMENT, () -> x.setPassers(0, 10, -1));
        Expect.refuses("601 passers", x, ARGUMENT, () -> x.setPassers(0, 10, 601));
    }

    private static void passersAt() {
        Hatpitch x = new Hatpitch();
        x.addPitch(1, 0, false);
        x.addPitch(2, 0, false);
        Expect.same("nobody at first", x.passersAt(0, 600), 0);
        x.setPassers(0, 10, 90);
        x.setPassers(0, 19, 59);
        Expect.same("90 in an hour, minute 0", x.passersAt(0, 600), 1);
        Expect.same("90 in an hour, minute 1", x.passersAt(0, 601), 2);
        Expect.same("90 in an hour, the last minute", x.passersAt(0, 659), 2);
        Expect.same("the hour behind", x.passersAt(0, 660), 0);
        Expect.same("59 in an hour, minute 0", x.passersAt(0, 1140), 0);
        Expect.same("59 in an hour, minute 1", x.passersAt(0, 1141), 1);
        Expect.same("59 in an hour, the last minute", x.passersAt(0, 1199), 1);
        Expect.same("another pitch", x.passersAt(1, 601), 0);
        int sum = 0;
        for (int minute = 600; minute < 660; minute++) {
            sum += x.passersAt(0, minute);
        }
        Expect.same("all of an hour", sum, 90);
        Expect.refuses("no pitch, no minute", x, INDEX, () -> x.passersAt(2, 1200));
        Expect.refuses("minute 599", x, ARGUMENT, () -> x.passersAt(0, 599));
        Expect.refuses("minute 1200", x, ARGUMENT, () -> x.passersAt(0, 1200));
    }

    private static void addAct() {
        Hatpitch x = new Hatpitch();
        Expect.refuses("4 minutes", x, ARGUMENT, () -> x.addAct(4, 0, 1, 1, false));
        Expect.refuses("61 minutes", x, ARGUMENT, () -> x.addAct(61, 0, 1, 1, false));
        Expect.refuses("loudness -1", x, ARGUMENT, () -> x.addAct(5, -1, 1, 1, false));
        Expect.refuses("loudness 10", x, ARGUMENT, () -> x.addAct(5, 10, 1, 1, false));
        Expect.refuses("skill 0", x, ARGUMENT, () -> x.addAct(5, 0, 0, 1, false));
        Expect.refuses("skill 10", x, ARGUMENT, () -> x.addAct(5, 0, 10, 1, false));
        Expect.refuses("line 0", x, ARGUMENT, () -> x.addAct(5, 0, 1, 0, false));
        Expect.refuses("line 10", x, ARGUMENT, () -> x.addAct(5, 0, 1, 10, true));
        Expect.same("the least act", x.addAct(5, 0, 1, 1, false), 0);
        Expect.same("the most act", x.addAct(60, 9, 9, 9, true), 1);
        Expect.same("its money", x.money(1), 0);
        for (int act = 2; act < 8; act++) {
            Expect.same("addAct", x.addAct(5, 0, 1, 1, false), act);
        }
        Expect.refuses("a ninth", x, STATE, () -> x.addAct(5, 0, 1, 1, false));
        Expect.refuses("a ninth, out of range", x, ARGUMENT, () -> x.addAct(5, 0, 1, 0, false));
    }

    private static void setLine() {
        Hatpitch x = actsOnly(1);
        Expect.same("setLine(0, 9)", x.setLine(0, 9), 1);
        Expect.same("setLine(0, 4)", x.setLine(0, 4), 9);
        Expect.refuses("line 0", x, ARGUMENT, () -> x.setLine(0, 0));
        Expect.refuses("line 10", x, ARGUMENT, () -> x.setLine(0, 10));
        Expect.refuses("no act, no line", x, INDEX, () -> x.setLine(1, 0));
        Expect.refuses("an act below 0", x, INDEX, () -> x.setLine(-1, 1));
        Expect.same("setLine(0, 1)", x.setLine(0, 1), 4);
    }

    private static void setPermit() {
        Hatpitch x = actsOnly(2);
        Expect.same("no permit at first", x.setPermit(0, false), false);
        Expect.same("still none", x.setPermit(0, true), false);
        Expect.same("one then", x.setPermit(0, true), true);
        Expect.same("the other act has none", x.setPermit(1, true), false);
        Expect.same("one still", x.setPermit(0, false), true);
        Expect.same("taken", x.setPermit(0, false), false);
        Expect.refuses("no act", x, INDEX, () -> x.setPermit(2, true));
        Expect.refuses("an act below 0", x, INDEX, () -> x.setPermit(-1, true));
    }

    private static void addCustom() {
        Hatpitch x = actsOnly(3);
        Expect.same("addCustom(0, 1)", x.addCustom(0, 1), true);
        Expect.same("addCustom(0, 1) again", x.addCustom(0, 1), false);
        Expect.refuses("the other way round", x, UNSUPPORTED, () -> x.addCustom(1, 0));
        Expect.same("addCustom(1, 2)", x.addCustom(1, 2), true);
        Expect.refuses("a ring of three", x, UNSUPPORTED, () -> x.addCustom(2, 0));
        Expect.same("what follows already is new as a custom", x.addCustom(0, 2), true);
        Expect.refuses("no such act", x, INDEX, () -> x.addCustom(3, 0));
        Expect.refuses("no such other", x, INDEX, () -> x.addCustom(0, 3));
        Expect.refuses("both below 0 and the same", x, INDEX, () -> x.addCustom(-1, -1));
        Expect.refuses("both beyond and the same", x, INDEX, () -> x.addCustom(3, 3));
        Expect.refuses("both the same", x, ARGUMENT, () -> x.addCustom(1, 1));
        Expect.same("one order is left", x.orders(), 1);
    }

    private static void longRings() {
        Hatpitch down = actsOnly(8);
        for (int act = 7; act > 0; act--) {
            Expect.same("a chain down", down.addCustom(act, act - 1), true);
        }
        Expect.refuses("a ring of eight", down, UNSUPPORTED, () -> down.addCustom(0, 7));
        Hatpitch up = actsOnly(8);
        for (int act = 0; act < 7; act++) {
            Expect.same("a chain up", up.addCustom(act, act + 1), true);
        }
        Expect.refuses("a ring of eight", up, UNSUPPORTED, () -> up.addCustom(7, 0));
        up.endCustom(3, 4);
        Expect.same("no ring with a gap", up.addCustom(7, 0), true);
        for (int middle = 0; middle < 3; middle++) {
            Hatpitch x = actsOnly(3);
            int first = (middle + 1) % 3;
            int last = (middle + 2) % 3;
            x.addCustom(first, middle);
            x.addCustom(middle, last);
            Expect.refuses("a ring by way of " + middle, x, UNSUPPORTED, () -> x.addCustom(last, first));
        }
    }

    private static void endCustom() {
        Hatpitch x = actsOnly(3);
        x.addCustom(0, 1);
        x.addCustom(1, 2);
        Expect.same("no custom, what only follows", x.endCustom(0, 2), false);
        Expect.same("not the other way round", x.endCustom(1, 0), false);
        Expect.same("not of one act", x.endCustom(1, 1), false);
        Expect.same("still one order", x.orders(), 1);
        Expect.same("endCustom(0, 1)", x.endCustom(0, 1), true);
        Expect.same("endCustom(0, 1) again", x.endCustom(0, 1), false);
        Expect.same("three orders then", x.orders(), 3);
        Expect.same("now the other way", x.addCustom(1, 0), true);
        Expect.refuses("no such act", x, INDEX, () -> x.endCustom(3, 0));
        Expect.refuses("no such other", x, INDEX, () -> x.endCustom(0, -1));
    }
}
