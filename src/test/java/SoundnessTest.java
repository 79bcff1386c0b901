import java.lang.reflect.Field;
import java.util.ArrayList;
import java.util.List;

/**
 * Promise 36 from inside: no call makes a street unsound, so each thing that isSound() looks at is
 * put wrong in the object's own fields, told by isSound(), and put right again.
 */
public final class SoundnessTest {
    private SoundnessTest() {
    }

    public static void main(String[] args) throws ReflectiveOperationException {
        money();
        actsOnTwoPitches();
        drawnOrder();
        overlap();
        Expect.end("SoundnessTest");
    }

    /** Two pitches with two turns each, the order 2, 0, 1 drawn, the day played with a fine and a gift. */
    private static Hatpitch street() {
        Hatpitch x = new Hatpitch();
        x.addPitch(10, 0, false);
        x.addPitch(90, 0, false);
        for (int act = 0; act < 3; act++) {
            x.addAct(5, 0, 9, 1, true);
            x.setPassers(act % 2, 10, 600);
        }
        x.addCustom(2, 0);
        x.addCustom(0, 1);
        x.drawLots();
        x.addTurn(0, 0);
        x.addTurn(0, 1);
        x.addTurn(1, 2);
        x.addTurn(1, 2);
        x.addVisit(0, 600);
        x.play();
        Expect.same("sound at first", x.isSound(), true);
        return x;
    }

    private static void money() throws ReflectiveOperationException {
        Hatpitch x = street();
        Object act = at(x, "acts", 1);
        int before = (int) get(act, "money");
        for (int off = -1; off <= 1; off++) {
            set(act, "money", before + off);
            Expect.same("money off by " + off, x.isSound(), off == 0);
        }
    }

    private static void actsOnTwoPitches() throws ReflectiveOperationException {
        Hatpitch x = street();
        x.nextDay();
        x.addTurn(0, 0);
        x.addTurn(0, 1);
        x.addTurn(1, 2);
        ArrayList<Object> here = list(at(x, "pitches", 0), "turns");
        ArrayList<Object> there = list(at(x, "pitches", 1), "turns");
        Expect.same("apart", x.isSound(), true);
        there.add(here.get(1));
        Expect.same("an act on two pitches", x.isSound(), false);
        there.remove(1);
        Expect.same("apart again", x.isSound(), true);
        x.addPitch(50, 0, false);
        ArrayList<Object> last = list(at(x, "pitches", 2), "turns");
        for (Object turn : List.of(here.get(0), here.get(1), there.get(0))) {
            last.add(turn);
            Expect.same("an act on another pitch and on the last one", x.isSound(), false);
            last.clear();
        }
    }

    private static void drawnOrder() throws ReflectiveOperationException {
        Hatpitch x = street();
        int[] drawn = (int[]) get(get(x, "lots"), "drawn");
        int[][] wrong = {{0, 1, 2}, {2, 1, 0}, {2, 2, 1}, {2, 0, 0}, {2, 0, 2}, {2, 0, 3}, {-1, 0, 1}};
        for (int[] order : wrong) {
            System.arraycopy(order, 0, drawn, 0, 3);
            Expect.same("an order not allowed", x.isSound(), false);
        }
        System.arraycopy(new int[] {2, 0, 1}, 0, drawn, 0, 3);
        Expect.same("the order again", x.isSound(), true);
    }

    private static void overlap() throws ReflectiveOperationException {
        for (int pitch = 0; pitch < 2; pitch++) {
            Hatpitch x = street();
            ArrayList<Object> turns = list(at(x, "pitches", pitch), "turns");
            Object second = turns.get(1);
            set(second, "begin", 604);
            Expect.same("begins in the last minute of the one ahead", x.isSound(), false);
            set(second, "begin", 603);
            Expect.same("begins ahead of it", x.isSound(), false);
            set(second, "begin", 605);
            Expect.same("begins behind it", x.isSound(), true);
            Object first = turns.get(0);
            set(first, "last", 599);
            Expect.same("over ahead of its beginning", x.isSound(), false);
        }
    }

    private static Object at(Hatpitch x, String name, int index) throws ReflectiveOperationException {
        return list(get(x, "street"), name).get(index);
    }

    @SuppressWarnings("unchecked")
    private static ArrayList<Object> list(Object owner, String name) throws ReflectiveOperationException {
        return (ArrayList<Object>) get(owner, name);
    }

    private static Object get(Object owner, String name) throws ReflectiveOperationException {
        return field(owner, name).get(owner);
    }

    private static void set(Object owner, String name, int value) throws ReflectiveOperationException {
        field(owner, name).setInt(owner, value);
    }

    private static Field field(Object owner, String name) throws ReflectiveOperationException {
        Field field = owner.getClass().getDeclaredField(name);
        field.setAccessible(true);
        return field;
    }
}
