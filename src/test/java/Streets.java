import java.util.function.Consumer;

/** Streets that boundary cases begin with. */
final class Streets {
    private Streets() {
    }

    /** Pitches 10 yards apart from yard 0 on, where nobody passes; acts of 5 minutes, silent, all else the least. */
    static Hatpitch of(int pitches, int acts) {
        Hatpitch x = new Hatpitch();
        for (int pitch = 0; pitch < pitches; pitch++) {
            x.addPitch(10 * pitch, 0, false);
        }
        for (int act = 0; act < acts; act++) {
            x.addAct(5, 0, 1, 1, false);
        }
        return x;
    }

    /** One pitch at yard 50, where ten pass a minute from 10 to 11. */
    static Hatpitch crowd(boolean isShaded) {
        Hatpitch x = new Hatpitch();
        x.addPitch(50, 0, isShaded);
        x.setPassers(0, 10, 600);
        return x;
    }

    /** The same with one turn of a silent act, which draws its skill and a tenth of who stands there a minute. */
    static Hatpitch crowd(int minutes, int skill, int line) {
        Hatpitch x = crowd(false);
        x.addTurn(0, x.addAct(minutes, 0, skill, line, false));
        return x;
    }

    /** One pitch with turns of one act. */
    static Hatpitch turns(int turns) {
        Hatpitch x = of(1, 1);
        for (int turn = 0; turn < turns; turn++) {
            x.addTurn(0, 0);
        }
        return x;
    }

    static Hatpitch with(Hatpitch x, Consumer<Hatpitch> told) {
        told.accept(x);
        return x;
    }

    static Hatpitch played(Hatpitch x) {
        x.play();
        return x;
    }
}
