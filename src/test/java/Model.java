import java.util.ArrayList;
import java.util.HashSet;
import java.util.List;
import java.util.NoSuchElementException;
import java.util.Set;
import java.util.TreeSet;

/**
 * The document once more, in the plainest words and without thrift: sets of pairs, all
 * permutations written out, the day as a grid of pitches and minutes.
 */
final class Model {
    record Place(int yard, int echo, boolean shaded, int[] hours, List<Integer> turns) {
    }

    static final class Player {
        int minutes;
        int loudness;
        int skill;
        int line;
        boolean fire;
        boolean permit;
        int money;
        Set<Integer> group = new TreeSet<>();
    }

    static final class Played {
        int begin;
        int end;
        int most;
        int stood;
        int given;
        int drowned;
        boolean broken;
    }

    static final class Call {
        int pitch;
        int minute;
        char why = '-';
        int sum;
    }

    final List<Place> pitches = new ArrayList<>();
    final List<Player> acts = new ArrayList<>();
    final Set<List<Integer>> customs = new HashSet<>();
    List<Integer> lots;
    long z = 1;
    int rainFrom;
    int rainMinutes;
    int cold;
    int limit = 99;
    int distance;
    List<Call> visits = new ArrayList<>();
    List<List<Played>> result;
    int dayGiven;
    int fines;
    int day;
    final List<Integer> days = new ArrayList<>();

    int addPitch(int yard, int echo, boolean shaded) {
        range(yard, 0, 99);
        range(echo, 0, 9);
        if (pitches.stream().anyMatch(p -> p.yard() == yard)) {
            throw new UnsupportedOperationException();
        }
        if (pitches.size() == 6) {
            throw new IllegalStateException();
        }
        pitches.add(new Place(yard, echo, shaded, new int[20], new ArrayList<>()));
        return pitches.size() - 1;
    }

    int setPassers(int pitch, int hour, int passers) {
        index(pitch, pitches);
        range(hour, 10, 19);
        range(passers, 0, 600);
        int before = pitches.get(pitch).hours()[hour];
        pitches.get(pitch).hours()[hour] = passers;
        return before;
    }

    int passersAt(int pitch, int minute) {
        index(pitch, pitches);
        range(minute, 600, 1199);
        int n = pitches.get(pitch).hours()[minute / 60];
        int m = minute % 60;
        return (n * (m + 1)) / 60 - (n * m) / 60;
    }

    int addAct(int minutes, int loudness, int skill, int line, boolean fire) {
        range(minutes, 5, 60);
        range(loudness, 0, 9);
        range(skill, 1, 9);
        range(line, 1, 9);
        if (acts.size() == 8) {
            throw new IllegalStateException();
        }
        Player act = new Player();
        act.minutes = minutes;
        act.loudness = loudness;
        act.skill = skill;
        act.line = line;
        act.fire = fire;
        act.group.add(acts.size());
        acts.add(act);
        return acts.size() - 1;
    }

    int setLine(int act, int line) {
        index(act, acts);
        range(line, 1, 9);
        int before = acts.get(act).line;
        acts.get(act).line = line;
        return before;
    }

    boolean setPermit(int act, boolean is) {
        index(act, acts);
        boolean before = acts.get(act).permit;
        acts.get(act).permit = is;
        return before;
    }

    boolean addCustom(int act, int other) {
        twoActs(act, other);
        Set<Integer> behind = new TreeSet<>(Set.of(other));
        while (true) {
            Set<Integer> more = new TreeSet<>(behind);
            customs.stream().filter(c -> behind.contains(c.get(0))).forEach(c -> more.add(c.get(1)));
            if (more.size() == behind.size()) {
                break;
            }
            behind.addAll(more);
        }
        if (behind.contains(act)) {
            throw new UnsupportedOperationException();
        }
        return customs.add(List.of(act, other));
    }

    boolean endCustom(int act, int other) {
        index(act, acts);
        index(other, acts);
        return customs.remove(List.of(act, other));
    }

    private List<List<Integer>> allOrders() {
        List<List<Integer>> all = new ArrayList<>();
        write(new ArrayList<>(), all);
        return all;
    }

    private void write(List<Integer> begun, List<List<Integer>> all) {
        if (begun.size() == acts.size()) {
            all.add(List.copyOf(begun));
        }
        for (int act : free(begun)) {
            begun.add(act);
            write(begun, all);
            begun.remove(begun.size() - 1);
        }
    }

    private List<Integer> free(List<Integer> begun) {
        List<Integer> free = new ArrayList<>();
        for (int act = 0; act < acts.size(); act++) {
            int one = act;
            if (!begun.contains(act)
                    && customs.stream().noneMatch(c -> c.get(1) == one && !begun.contains(c.get(0)))) {
                free.add(act);
            }
        }
        return free;
    }

    int orders() {
        return allOrders().size();
    }

    int orderAt(int order, int place) {
        List<List<Integer>> all = allOrders();
        if (order < 0 || order >= all.size() || place < 0 || place >= all.get(order).size()) {
            throw new NoSuchElementException();
        }
        return all.get(order).get(place);
    }

    int drawLots() {
        List<Integer> begun = new ArrayList<>();
        while (begun.size() < acts.size()) {
            z = z * 48271 % 2147483647;
            List<Integer> free = free(begun);
            begun.add(free.get((int) (z % free.size())));
        }
        lots = begun;
        return begun.size();
    }

    int lotAt(int place) {
        if (lots == null || place < 0 || place >= lots.size()) {
            throw new NoSuchElementException();
        }
        return lots.get(place);
    }

    int seed(int next) {
        range(next, 1, 2147483646);
        int before = (int) z;
        z = next;
        return before;
    }

    int addTurn(int pitch, int act) {
        index(pitch, pitches);
        index(act, acts);
        unplayed();
        for (Place place : pitches) {
            if (place != pitches.get(pitch) && place.turns().contains(act)) {
                throw new UnsupportedOperationException();
            }
        }
        if (pitches.get(pitch).turns().size() == 8) {
            throw new UnsupportedOperationException();
        }
        pitches.get(pitch).turns().add(act);
        return pitches.get(pitch).turns().size();
    }

    int turnsByLots() {
        unplayed();
        if (lots == null || pitches.isEmpty()) {
            throw new UnsupportedOperationException();
        }
        pitches.forEach(p -> p.turns().clear());
        int pitch = 0;
        for (int act : lots) {
            pitches.get(pitch).turns().add(act);
            pitch = pitch + 1 == pitches.size() ? 0 : pitch + 1;
        }
        return lots.size();
    }

    boolean exchange(int pitch, int turn, int other) {
        index(pitch, pitches);
        List<Integer> turns = pitches.get(pitch).turns();
        index(turn, turns);
        index(other, turns);
        unplayed();
        List<Integer> then = new ArrayList<>(turns);
        then.set(turn, turns.get(other));
        then.set(other, turns.get(turn));
        for (int i = 0; i < then.size(); i++) {
            for (int k = i + 1; k < then.size(); k++) {
                if (customs.contains(List.of(then.get(k), then.get(i)))) {
                    throw new UnsupportedOperationException();
                }
            }
        }
        boolean unlike = !then.equals(turns);
        turns.clear();
        turns.addAll(then);
        return unlike;
    }

    int turnAt(int pitch, int turn) {
        index(pitch, pitches);
        if (turn < 0 || turn >= pitches.get(pitch).turns().size()) {
            throw new NoSuchElementException();
        }
        return pitches.get(pitch).turns().get(turn);
    }

    int setRain(int from, int to) {
        range(from, 600, 1199);
        range(to, from, 1199);
        int before = rainMinutes;
        rainFrom = from;
        rainMinutes = to + 1 - from;
        return before;
    }

    int setCold(int next) {
        range(next, 0, 40);
        int before = cold;
        cold = next;
        return before;
    }

    int setLaw(int nextLimit, int nextDistance) {
        range(nextLimit, 0, 99);
        range(nextDistance, 0, 99);
        int before = limit;
        limit = nextLimit;
        distance = nextDistance;
        return before;
    }

    int addVisit(int pitch, int minute) {
        index(pitch, pitches);
        range(minute, 600, 1199);
        if (visits.size() == 6) {
            throw new IllegalStateException();
        }
        unplayed();
        Call visit = new Call();
        visit.pitch = pitch;
        visit.minute = minute;
        visits.add(visit);
        return visits.size();
    }

    int join(int act, int other) {
        twoActs(act, other);
        Set<Integer> all = new TreeSet<>(acts.get(act).group);
        all.addAll(acts.get(other).group);
        all.forEach(a -> acts.get(a).group = all);
        return all.size();
    }

    int play() {
        unplayed();
        int n = pitches.size();
        result = new ArrayList<>();
        int[] from = new int[n];
        int[] stand = new int[n];
        for (int p = 0; p < n; p++) {
            result.add(new ArrayList<>());
            from[p] = 600;
        }
        dayGiven = 0;
        for (int minute = 600; minute < 1200; minute++) {
            int[] act = new int[n];
            for (int p = 0; p < n; p++) {
                act[p] = playing(p, minute, from, stand);
            }
            fineAll(act, minute);
            for (int p = 0; p < n; p++) {
                if (act[p] >= 0) {
                    live(p, act, minute, from, stand);
                }
            }
        }
        return dayGiven;
    }

    /** The act on a pitch in a minute, or -1; from[] is when the pitch's next turn begins, and 0 while one is on. */
    private int playing(int p, int minute, int[] from, int[] stand) {
        List<Integer> turns = pitches.get(p).turns();
        List<Played> played = result.get(p);
        if (from[p] == minute && played.size() < turns.size()) {
            int end = minute + acts.get(turns.get(played.size())).minutes - 1;
            if (end > 1199) {
                return -1;
            }
            Played turn = new Played();
            turn.begin = minute;
            turn.end = end;
            played.add(turn);
            stand[p] = 0;
            from[p] = 0;
        }
        return from[p] == 0 ? turns.get(played.size() - 1) : -1;
    }

    private void fineAll(int[] act, int minute) {
        for (Call visit : visits) {
            if (visit.minute != minute || act[visit.pitch] < 0) {
                continue;
            }
            Player player = acts.get(act[visit.pitch]);
            String reasons = "";
            if (player.fire && !player.permit) {
                reasons += "f";
                visit.sum += 20;
            }
            if (10 * player.loudness + pitches.get(visit.pitch).echo() > limit) {
                reasons += "n";
                visit.sum += 10;
            }
            for (int q = 0; q < act.length; q++) {
                if (q != visit.pitch && act[q] >= 0 && yards(q, visit.pitch) < distance && !reasons.contains("d")) {
                    reasons += "d";
                    visit.sum += 5;
                }
            }
            visit.why = reasons.isEmpty() ? '-' : reasons.charAt(0);
            player.money -= visit.sum;
            fines += visit.sum;
        }
    }

    private void live(int p, int[] act, int minute, int[] from, int[] stand) {
        Player player = acts.get(act[p]);
        Played turn = result.get(p).get(result.get(p).size() - 1);
        boolean rains = minute >= rainFrom && minute < rainFrom + rainMinutes;
        boolean wet = rains && !pitches.get(p).shaded();
        boolean drowned = false;
        for (int q = 0; q < act.length; q++) {
            drowned |= q != p && act[q] >= 0
                    && 10 * acts.get(act[q]).loudness + pitches.get(q).echo() - yards(p, q) > 10 * player.loudness;
        }
        int stop = passersAt(p, minute) * (10 * player.skill + Math.min(40, stand[p])) / 100;
        stop = wet ? 0 : drowned ? stop / 2 : stop;
        int go = stand[p] * (cold + (wet ? 50 : 0) + (drowned ? 10 : 0)) / 100;
        stand[p] = stand[p] + stop - go;
        turn.drowned += drowned ? 1 : 0;
        turn.most = Math.max(turn.most, stand[p]);
        turn.stood = stand[p];
        if (turn.most >= 10 && stand[p] < 3) {
            turn.broken = true;
            turn.end = minute;
        } else if (turn.end == minute) {
            int stay = stand[p] - stand[p] * 3 * player.line / 100;
            turn.given = stay * (player.skill + player.line) / (rains ? 2 : 1);
            dayGiven += turn.given;
            int each = turn.given / player.group.size();
            player.group.forEach(a -> acts.get(a).money += each);
            player.money += turn.given - each * player.group.size();
        }
        if (turn.end == minute) {
            from[p] = minute + 6;
        }
    }

    private int yards(int p, int q) {
        return Math.abs(pitches.get(p).yard() - pitches.get(q).yard());
    }

    private Played playedTurn(int pitch, int turn) {
        if (result == null) {
            throw new IllegalStateException();
        }
        if (pitch >= result.size() || turn < 0 || turn >= result.get(pitch).size()) {
            throw new NoSuchElementException();
        }
        return result.get(pitch).get(turn);
    }

    int of(int pitch, int turn, char what) {
        index(pitch, pitches);
        if ("bemscd".indexOf(what) < 0) {
            throw new IllegalArgumentException();
        }
        Played played = playedTurn(pitch, turn);
        return switch (what) {
            case 'b' -> played.begin;
            case 'e' -> played.end;
            case 'm' -> played.most;
            case 's' -> played.stood;
            case 'c' -> played.given;
            default -> played.drowned;
        };
    }

    boolean isBroken(int pitch, int turn) {
        index(pitch, pitches);
        return playedTurn(pitch, turn).broken;
    }

    private Call visitAt(int visit) {
        if (result == null) {
            throw new IllegalStateException();
        }
        if (visit < 0 || visit >= visits.size()) {
            throw new NoSuchElementException();
        }
        return visits.get(visit);
    }

    char fineAt(int visit) {
        return visitAt(visit).why;
    }

    int sumAt(int visit) {
        return visitAt(visit).sum;
    }

    int money(int act) {
        index(act, acts);
        return acts.get(act).money;
    }

    int fines() {
        return fines;
    }

    int nextDay() {
        if (result == null) {
            throw new IllegalStateException();
        }
        result = null;
        days.add(dayGiven);
        pitches.forEach(p -> p.turns().clear());
        visits = new ArrayList<>();
        rainMinutes = 0;
        day++;
        return day;
    }

    int diary(int ago) {
        if (ago < 1 || ago > 10 || ago > days.size()) {
            throw new NoSuchElementException();
        }
        return days.get(days.size() - ago);
    }

    long checksum() {
        long sum = 7;
        for (Player act : acts) {
            sum = 31 * sum + act.money;
            sum = 31 * sum + act.line;
        }
        for (Place place : pitches) {
            sum = 31 * sum + place.turns().size();
            sum = 31 * sum + place.yard();
        }
        sum = 31 * sum + fines;
        return 31 * sum + z;
    }

    float goodShare() {
        if (result == null) {
            throw new IllegalStateException();
        }
        int told = pitches.stream().mapToInt(p -> p.turns().size()).sum();
        if (told == 0) {
            throw new ArithmeticException();
        }
        long good = result.stream().flatMap(List::stream).filter(t -> !t.broken).count();
        return (float) good / (float) told;
    }

    double meanMoney() {
        if (acts.isEmpty()) {
            throw new ArithmeticException();
        }
        return (double) acts.stream().mapToInt(a -> a.money).sum() / (double) acts.size();
    }

    boolean isSound() {
        return true;
    }

    private void unplayed() {
        if (result != null) {
            throw new IllegalStateException();
        }
    }

    private void twoActs(int act, int other) {
        index(act, acts);
        index(other, acts);
        if (act == other) {
            throw new IllegalArgumentException();
        }
    }

    private static void range(int number, int least, int most) {
        if (number < least || number > most) {
            throw new IllegalArgumentException();
        }
    }

    private static void index(int number, List<?> list) {
        if (number < 0 || number >= list.size()) {
            throw new IndexOutOfBoundsException();
        }
    }
}
