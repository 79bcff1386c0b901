import java.util.Random;
import java.util.function.Supplier;

/** Long runs of drawn calls, wrong ones among them, on the class and on the model side by side. */
public final class ModelRunsTest {
    private static final int RUNS = 400;
    private static final int CALLS = 512;
    private static final String THINGS = "bemscdq";

    private final Random dice;
    private final Hatpitch x = new Hatpitch();
    private final Model m = new Model();
    private final int run;

    private ModelRunsTest(int run) {
        this.run = run;
        dice = new Random(run * 7919L + 1);
    }

    public static void main(String[] args) {
        for (int run = 0; run < RUNS; run++) {
            new ModelRunsTest(run).go();
        }
        Expect.end("ModelRunsTest");
    }

    /** Runs with few acts can draw every call; with many, asking for all orders is dear for the model. */
    private void go() {
        int acts = run % 8 == 0 ? 7 : 3 + run % 3;
        int pitches = 1 + run % 6;
        for (int call = 0; call < CALLS; call++) {
            if (call < pitches) {
                addPitch();
            } else if (call < pitches + acts && call % 2 == 0 || m.acts.size() < 2) {
                addAct();
            } else {
                one(dice.nextInt(100));
            }
        }
    }

    private void one(int kind) {
        if (kind < 12) {
            grow(kind);
        } else if (kind < 30) {
            order(kind);
        } else if (kind < 52) {
            turn(kind);
        } else if (kind < 70) {
            setting(kind);
        } else if (kind < 90) {
            ask(kind);
        } else {
            day(kind);
        }
    }

    private void addPitch() {
        int yard = dice.nextInt(10) == 0 ? number(0, 99) : dice.nextInt(40);
        int echo = number(0, 9);
        boolean shaded = dice.nextBoolean();
        both("addPitch " + yard + " " + echo,
                () -> x.addPitch(yard, echo, shaded), () -> m.addPitch(yard, echo, shaded));
    }

    private void addAct() {
        int minutes = dice.nextBoolean() ? number(5, 60) : number(5, 12);
        int loudness = number(0, 9);
        int skill = number(1, 9);
        int line = number(1, 9);
        boolean fire = dice.nextBoolean();
        both("addAct " + minutes + " " + loudness + " " + skill + " " + line,
                () -> x.addAct(minutes, loudness, skill, line, fire),
                () -> m.addAct(minutes, loudness, skill, line, fire));
    }

    private void grow(int kind) {
        if (kind < 1) {
            addPitch();
        } else if (kind < 2 && m.acts.size() < 6) {
            addAct();
        } else if (kind < 8) {
            int pitch = pitch();
            int hour = dice.nextInt(3) > 0 ? 10 : number(10, 19);
            int passers = dice.nextBoolean() ? 600 - dice.nextInt(50) : number(0, 600);
            both("setPassers", () -> x.setPassers(pitch, hour, passers), () -> m.setPassers(pitch, hour, passers));
        } else {
            int pitch = pitch();
            int minute = number(600, 1199);
            both("passersAt", () -> x.passersAt(pitch, minute), () -> m.passersAt(pitch, minute));
        }
    }

    private void order(int kind) {
        int act = act();
        int other = act();
        if (kind < 17) {
            both("addCustom " + act + " " + other, () -> x.addCustom(act, other), () -> m.addCustom(act, other));
        } else if (kind < 20) {
            both("endCustom " + act + " " + other, () -> x.endCustom(act, other), () -> m.endCustom(act, other));
        } else if (kind < 21) {
            both("orders", x::orders, m::orders);
        } else if (kind < 23) {
            int order = number(0, dice.nextBoolean() ? 5 : 200);
            both("orderAt " + order + " " + act, () -> x.orderAt(order, act), () -> m.orderAt(order, act));
        } else if (kind < 25) {
            both("drawLots", x::drawLots, m::drawLots);
        } else if (kind < 28) {
            both("lotAt " + act, () -> x.lotAt(act), () -> m.lotAt(act));
        } else {
            int z = dice.nextInt(20) == 0 ? -dice.nextInt(2) : 1 + dice.nextInt(2147483646);
            both("seed " + z, () -> x.seed(z), () -> m.seed(z));
        }
    }

    private void turn(int kind) {
        int pitch = pitch();
        if (kind < 40) {
            int act = act();
            both("addTurn " + pitch + " " + act, () -> x.addTurn(pitch, act), () -> m.addTurn(pitch, act));
        } else if (kind < 43) {
            both("turnsByLots", x::turnsByLots, m::turnsByLots);
        } else if (kind < 48) {
            int turn = number(0, 3);
            int other = number(0, 3);
            both("exchange " + pitch + " " + turn + " " + other,
                    () -> x.exchange(pitch, turn, other), () -> m.exchange(pitch, turn, other));
        } else {
            int turn = number(0, 7);
            both("turnAt", () -> x.turnAt(pitch, turn), () -> m.turnAt(pitch, turn));
        }
    }

    private void setting(int kind) {
        int act = act();
        if (kind < 54) {
            int from = 590 + dice.nextInt(100);
            int to = from + dice.nextInt(60) - 2;
            both("setRain " + from + " " + to, () -> x.setRain(from, to), () -> m.setRain(from, to));
        } else if (kind < 56) {
            int cold = number(0, 40);
            both("setCold " + cold, () -> x.setCold(cold), () -> m.setCold(cold));
        } else if (kind < 59) {
            int limit = number(0, 99);
            int distance = number(0, 99);
            both("setLaw", () -> x.setLaw(limit, distance), () -> m.setLaw(limit, distance));
        } else if (kind < 65) {
            int pitch = pitch();
            int minute = dice.nextInt(3) == 0 ? number(600, 1199) : 598 + dice.nextInt(60);
            both("addVisit " + minute, () -> x.addVisit(pitch, minute), () -> m.addVisit(pitch, minute));
        } else if (kind < 66) {
            int other = act();
            both("join " + act + " " + other, () -> x.join(act, other), () -> m.join(act, other));
        } else if (kind < 68) {
            boolean is = dice.nextBoolean();
            both("setPermit", () -> x.setPermit(act, is), () -> m.setPermit(act, is));
        } else {
            int line = number(1, 9);
            both("setLine " + line, () -> x.setLine(act, line), () -> m.setLine(act, line));
        }
    }

    private void ask(int kind) {
        int pitch = pitch();
        int turn = number(0, 3);
        if (kind < 80) {
            char what = THINGS.charAt(dice.nextInt(THINGS.length()));
            both("of " + pitch + " " + turn + " " + what, () -> x.of(pitch, turn, what), () -> m.of(pitch, turn, what));
        } else if (kind < 82) {
            both("isBroken", () -> x.isBroken(pitch, turn), () -> m.isBroken(pitch, turn));
        } else if (kind < 84) {
            int visit = number(0, 5);
            both("fineAt", () -> x.fineAt(visit), () -> m.fineAt(visit));
            both("sumAt", () -> x.sumAt(visit), () -> m.sumAt(visit));
        } else if (kind < 86) {
            int act = act();
            both("money " + act, () -> x.money(act), () -> m.money(act));
        } else if (kind < 88) {
            int ago = number(1, 10);
            both("diary " + ago, () -> x.diary(ago), () -> m.diary(ago));
        } else {
            both("goodShare", x::goodShare, m::goodShare);
            both("meanMoney", x::meanMoney, m::meanMoney);
        }
    }

    private void day(int kind) {
        if (kind < 93) {
            both("play", x::play, m::play);
        } else if (kind < 96) {
            both("nextDay", x::nextDay, m::nextDay);
        } else {
            both("checksum", x::checksum, m::checksum);
            both("fines", x::fines, m::fines);
            both("isSound", x::isSound, m::isSound);
        }
    }

    /** Mostly in the range, one in some thirty just out of it. */
    private int number(int least, int most) {
        int side = dice.nextInt(64);
        if (side < 2) {
            return side == 0 ? least - 1 : most + 1;
        }
        return least + dice.nextInt(most - least + 1);
    }

    private int pitch() {
        return number(0, Math.max(0, m.pitches.size() - 1));
    }

    private int act() {
        return number(0, Math.max(0, m.acts.size() - 1));
    }

    private void both(String call, Supplier<Object> here, Supplier<Object> there) {
        Expect.sameText("run " + run + ": " + call, ownAnswer(call, here), answer(there));
    }

    private String ownAnswer(String call, Supplier<Object> here) {
        try {
            return String.valueOf(here.get());
        } catch (RuntimeException e) {
            if (!Expect.isThrownByHatpitch(e)) {
                Expect.tell("run " + run + ": " + call + " left its exception to the machine: " + e);
            }
            return e.getClass().getSimpleName();
        }
    }

    private static String answer(Supplier<Object> call) {
        try {
            return String.valueOf(call.get());
        } catch (RuntimeException e) {
            return e.getClass().getSimpleName();
        }
    }
}
