import java.util.ArrayList;
import java.util.NoSuchElementException;

/** A street of pitches, the acts that play there, and what one day after another brings them. */
public final class Hatpitch {
    private static final int MOST_PITCHES = 6;
    private static final int MOST_ACTS = 8;
    private static final int MOST_TURNS = 8;
    private static final int MOST_VISITS = 6;
    private static final int MOST_DAYS_KEPT = 10;

    private static final int FIRST_MINUTE = 600;
    private static final int LAST_MINUTE = 1199;
    private static final int FIRST_HOUR = 10;
    private static final int LAST_HOUR = 19;
    private static final int HOURS = 10;
    private static final int MINUTES_OF_HOUR = 60;
    private static final int PAUSE = 5;

    private static final int MOST_YARD = 99;
    private static final int MOST_ECHO = 9;
    private static final int MOST_PASSERS = 600;
    private static final int LEAST_MINUTES = 5;
    private static final int MOST_MINUTES = 60;
    private static final int MOST_LOUDNESS = 9;
    private static final int MOST_SKILL = 9;
    private static final int MOST_LINE = 9;
    private static final int MOST_COLD = 40;
    private static final int MOST_LIMIT = 99;
    private static final int MOST_DISTANCE = 99;

    private static final int MOST_SEED = 2147483646;
    private static final long SEED_FACTOR = 48271L;
    private static final long SEED_MODULUS = 2147483647L;

    private static final int MOST_WHO_DRAW = 40;
    private static final int BIG_CIRCLE = 10;
    private static final int LEAST_CIRCLE = 3;

    private static final int FIRE_FINE = 20;
    private static final int NOISE_FINE = 10;
    private static final int DISTANCE_FINE = 5;

    private final Street street;
    private final Customs customs;
    private final Lots lots;
    private final Weather weather;
    private final Law law;
    private final Day day;
    private final Diary pages;

    public Hatpitch() {
        street = new Street();
        customs = new Customs();
        lots = new Lots();
        weather = new Weather();
        law = new Law();
        day = new Day(street, weather, law);
        pages = new Diary();
    }

    public int addPitch(int yard, int echo, boolean isShaded)
            throws IllegalArgumentException, UnsupportedOperationException, IllegalStateException {
        requireRange(yard, 0, MOST_YARD);
        requireRange(echo, 0, MOST_ECHO);
        if (street.hasPitchAt(yard)) {
            throw new UnsupportedOperationException("a pitch is there");
        }
        if (street.pitches.size() >= MOST_PITCHES) {
            throw new IllegalStateException("the street is full");
        }
        street.pitches.add(new Pitch(yard, echo, isShaded));
        return street.pitches.size() - 1;
    }

    public int setPassers(int pitch, int hour, int passers)
            throws IndexOutOfBoundsException, IllegalArgumentException {
        requirePitch(pitch);
        requireRange(hour, FIRST_HOUR, LAST_HOUR);
        requireRange(passers, 0, MOST_PASSERS);
        int[] row = street.pitches.get(pitch).passers;
        int before = row[hour - FIRST_HOUR];
        row[hour - FIRST_HOUR] = passers;
        return before;
    }

    public int passersAt(int pitch, int minute)
            throws IndexOutOfBoundsException, IllegalArgumentException {
        requirePitch(pitch);
        requireRange(minute, FIRST_MINUTE, LAST_MINUTE);
        return street.pitches.get(pitch).passersIn(minute);
    }

    public int addAct(int minutes, int loudness, int skill, int line, boolean hasFire)
            throws IllegalArgumentException, IllegalStateException {
        requireRange(minutes, LEAST_MINUTES, MOST_MINUTES);
        requireRange(loudness, 0, MOST_LOUDNESS);
        requireRange(skill, 1, MOST_SKILL);
        requireRange(line, 1, MOST_LINE);
        int number = street.acts.size();
        if (number >= MOST_ACTS) {
            throw new IllegalStateException("no more acts");
        }
        street.acts.add(new Act(number, minutes, loudness, skill, line, hasFire));
        return number;
    }

    public int setLine(int act, int line) throws IndexOutOfBoundsException, IllegalArgumentException {
        requireAct(act);
        requireRange(line, 1, MOST_LINE);
        Act told = street.acts.get(act);
        int before = told.line;
        told.line = line;
        return before;
    }

    public boolean setPermit(int act, boolean is) throws IndexOutOfBoundsException {
        requireAct(act);
        Act told = street.acts.get(act);
        boolean before = told.hasPermit;
        told.hasPermit = is;
        return before;
    }

    public boolean addCustom(int act, int other)
            throws IndexOutOfBoundsException, IllegalArgumentException, UnsupportedOperationException {
        requireTwoActs(act, other);
        if (customs.leads(other, act)) {
            throw new UnsupportedOperationException("customs would go round in a ring");
        }
        boolean isNew = !customs.has(act, other);
        customs.put(act, other);
        return isNew;
    }

    public boolean endCustom(int act, int other) throws IndexOutOfBoundsException {
        requireAct(act);
        requireAct(other);
        boolean wasOne = customs.has(act, other);
        customs.take(act, other);
        return wasOne;
    }

    public int orders() {
        return customs.countOrders(street.acts.size());
    }

    public int orderAt(int order, int place) throws NoSuchElementException {
        int acts = street.acts.size();
        if (order < 0 || order >= customs.countOrders(acts)) {
            throw new NoSuchElementException("no such order");
        }
        if (place < 0 || place >= acts) {
            throw new NoSuchElementException("no such place");
        }
        return customs.actOfOrder(order, place, acts);
    }

    public int drawLots() {
        lots.draw(customs, street.acts.size());
        return lots.size;
    }

    public int lotAt(int place) throws NoSuchElementException {
        if (!lots.isDrawn || place < 0 || place >= lots.size) {
            throw new NoSuchElementException("no such lot");
        }
        return lots.drawn[place];
    }

    public int seed(int z) throws IllegalArgumentException {
        requireRange(z, 1, MOST_SEED);
        int before = lots.z;
        lots.z = z;
        return before;
    }

    public int addTurn(int pitch, int act)
            throws IndexOutOfBoundsException, IllegalStateException, UnsupportedOperationException {
        requirePitch(pitch);
        requireAct(act);
        requireNotPlayed();
        ArrayList<Turn> turns = street.pitches.get(pitch).turns;
        if (street.hasTurnElsewhere(act, pitch) || turns.size() >= MOST_TURNS) {
            throw new UnsupportedOperationException("no such turn can be");
        }
        turns.add(new Turn(street.acts.get(act)));
        return turns.size();
    }

    public int turnsByLots() throws IllegalStateException, UnsupportedOperationException {
        requireNotPlayed();
        int pitches = street.pitches.size();
        if (!lots.isDrawn || pitches <= 0) {
            throw new UnsupportedOperationException("no order or no pitch");
        }
        street.clearTurns();
        for (int place = 0; place < lots.size; place++) {
            Act act = street.acts.get(lots.drawn[place]);
            street.pitches.get(place % pitches).turns.add(new Turn(act));
        }
        return lots.size;
    }

    public boolean exchange(int pitch, int turn, int other)
            throws IndexOutOfBoundsException, IllegalStateException, UnsupportedOperationException {
        requirePitch(pitch);
        ArrayList<Turn> turns = street.pitches.get(pitch).turns;
        if (!isIndex(turn, turns.size()) || !isIndex(other, turns.size())) {
            throw new IndexOutOfBoundsException("no such turn");
        }
        requireNotPlayed();
        if (!allowsExchange(turns, turn, other)) {
            throw new UnsupportedOperationException("a custom is against it");
        }
        Turn one = turns.get(turn);
        Turn two = turns.get(other);
        turns.set(turn, two);
        turns.set(other, one);
        return one.act.number != two.act.number;
    }

    public int turnAt(int pitch, int turn) throws IndexOutOfBoundsException, NoSuchElementException {
        requirePitch(pitch);
        ArrayList<Turn> turns = street.pitches.get(pitch).turns;
        if (!isIndex(turn, turns.size())) {
            throw new NoSuchElementException("no such turn");
        }
        return turns.get(turn).act.number;
    }

    public int setRain(int from, int to) throws IllegalArgumentException {
        requireRange(from, FIRST_MINUTE, LAST_MINUTE);
        requireRange(to, from, LAST_MINUTE);
        int before = weather.rainMinutes();
        weather.rainFrom = from;
        weather.rainTo = to;
        return before;
    }

    public int setCold(int cold) throws IllegalArgumentException {
        requireRange(cold, 0, MOST_COLD);
        int before = weather.cold;
        weather.cold = cold;
        return before;
    }

    public int setLaw(int limit, int distance) throws IllegalArgumentException {
        requireRange(limit, 0, MOST_LIMIT);
        requireRange(distance, 0, MOST_DISTANCE);
        int before = law.limit;
        law.limit = limit;
        law.distance = distance;
        return before;
    }

    public int addVisit(int pitch, int minute)
            throws IndexOutOfBoundsException, IllegalArgumentException, IllegalStateException {
        requirePitch(pitch);
        requireRange(minute, FIRST_MINUTE, LAST_MINUTE);
        requireNotPlayed();
        if (day.visits.size() >= MOST_VISITS) {
            throw new IllegalStateException("no more visits");
        }
        day.visits.add(new Visit(street.pitches.get(pitch), minute));
        return day.visits.size();
    }

    public int join(int act, int other) throws IndexOutOfBoundsException, IllegalArgumentException {
        requireTwoActs(act, other);
        return street.makePartners(street.acts.get(act), street.acts.get(other));
    }

    public int play() throws IllegalStateException {
        requireNotPlayed();
        day.run();
        return day.given;
    }

    public int of(int pitch, int turn, char what)
            throws IndexOutOfBoundsException, IllegalArgumentException, IllegalStateException, NoSuchElementException {
        requirePitch(pitch);
        requireThing(what);
        requirePlayed();
        requirePlayedTurn(pitch, turn);
        return street.pitches.get(pitch).turns.get(turn).tell(what);
    }

    public boolean isBroken(int pitch, int turn)
            throws IndexOutOfBoundsException, IllegalStateException, NoSuchElementException {
        requirePitch(pitch);
        requirePlayed();
        requirePlayedTurn(pitch, turn);
        return street.pitches.get(pitch).turns.get(turn).hasBroken;
    }

    public char fineAt(int visit) throws IllegalStateException, NoSuchElementException {
        requirePlayed();
        requireVisit(visit);
        return day.visits.get(visit).why;
    }

    public int sumAt(int visit) throws IllegalStateException, NoSuchElementException {
        requirePlayed();
        requireVisit(visit);
        return day.visits.get(visit).sum;
    }

    public int money(int act) throws IndexOutOfBoundsException {
        requireAct(act);
        return street.acts.get(act).money;
    }

    public int fines() {
        return day.finesInAll;
    }

    public int nextDay() throws IllegalStateException {
        requirePlayed();
        pages.write(day.given);
        street.clearTurns();
        weather.endRain();
        day.begin();
        return day.number;
    }

    public int diary(int ago) throws NoSuchElementException {
        if (ago < 1 || ago > pages.size) {
            throw new NoSuchElementException("no such line");
        }
        return pages.given[ago - 1];
    }

    public long checksum() {
        long sum = 7L;
        for (int i = 0; i < street.acts.size(); i++) {
            Act act = street.acts.get(i);
            sum = 31L * sum + act.money;
            sum = 31L * sum + act.line;
        }
        for (int i = 0; i < street.pitches.size(); i++) {
            Pitch pitch = street.pitches.get(i);
            sum = 31L * sum + pitch.turns.size();
            sum = 31L * sum + pitch.yard;
        }
        sum = 31L * sum + day.finesInAll;
        return 31L * sum + lots.z;
    }

    public float goodShare() throws IllegalStateException, ArithmeticException {
        requirePlayed();
        int told = street.countTurns();
        if (told <= 0) {
            throw new ArithmeticException("no turns");
        }
        return (float) street.countGoodTurns() / (float) told;
    }

    public double meanMoney() throws ArithmeticException {
        int acts = street.acts.size();
        if (acts <= 0) {
            throw new ArithmeticException("no acts");
        }
        return (double) street.sumMoney() / (double) acts;
    }

    public boolean isSound() {
        return street.sumMoney() == day.givenInAll - day.finesInAll
                && street.hasActsOnOnePitch()
                && lots.isAllowed()
                && street.hasTurnsApart();
    }

    private static boolean isIndex(int index, int size) {
        return index >= 0 && index < size;
    }

    private static void requireRange(int number, int least, int most) throws IllegalArgumentException {
        if (number < least || number > most) {
            throw new IllegalArgumentException("a number is out of range");
        }
    }

    private static void requireThing(char what) throws IllegalArgumentException {
        if (what != 'b' && what != 'e' && what != 'm' && what != 's' && what != 'c' && what != 'd') {
            throw new IllegalArgumentException("no such thing");
        }
    }

    private void requirePitch(int pitch) throws IndexOutOfBoundsException {
        if (!isIndex(pitch, street.pitches.size())) {
            throw new IndexOutOfBoundsException("no such pitch");
        }
    }

    private void requireAct(int act) throws IndexOutOfBoundsException {
        if (!isIndex(act, street.acts.size())) {
            throw new IndexOutOfBoundsException("no such act");
        }
    }

    private void requireTwoActs(int act, int other) throws IndexOutOfBoundsException, IllegalArgumentException {
        requireAct(act);
        requireAct(other);
        if (act == other) {
            throw new IllegalArgumentException("both are the same");
        }
    }

    private void requireNotPlayed() throws IllegalStateException {
        if (day.isPlayed) {
            throw new IllegalStateException("the day was played");
        }
    }

    private void requirePlayed() throws IllegalStateException {
        if (!day.isPlayed) {
            throw new IllegalStateException("the day was not played");
        }
    }

    private void requirePlayedTurn(int pitch, int turn) throws NoSuchElementException {
        ArrayList<Turn> turns = street.pitches.get(pitch).turns;
        if (!isIndex(turn, turns.size()) || !turns.get(turn).wasPlayed) {
            throw new NoSuchElementException("no such turn was played");
        }
    }

    private void requireVisit(int visit) throws NoSuchElementException {
        if (!isIndex(visit, day.visits.size())) {
            throw new NoSuchElementException("no such visit");
        }
    }

    private boolean allowsExchange(ArrayList<Turn> turns, int turn, int other) {
        int behind = 0;
        for (int place = turns.size() - 1; place >= 0; place--) {
            int act = turns.get(exchanged(place, turn, other)).act.number;
            if ((customs.ahead[act] & behind) != 0) {
                return false;
            }
            behind |= 1 << act;
        }
        return true;
    }

    private static int exchanged(int place, int turn, int other) {
        if (place == turn) {
            return other;
        }
        return place == other ? turn : place;
    }

    /** An act; its partners are a set of bits by their numbers, its own bit among them. */
    private static final class Act {
        final int number;
        final int minutes;
        final int loudness;
        final int skill;
        final boolean hasFire;
        int line;
        boolean hasPermit;
        int money;
        int partners;

        Act(int number, int minutes, int loudness, int skill, int line, boolean hasFire) {
            this.number = number;
            this.minutes = minutes;
            this.loudness = loudness;
            this.skill = skill;
            this.line = line;
            this.hasFire = hasFire;
            this.partners = 1 << number;
        }

        boolean isUnlawfulFire() {
            return hasFire && !hasPermit;
        }
    }

    /** A turn of an act, with what became of it. */
    private static final class Turn {
        final Act act;
        int begin;
        int last;
        int standing;
        int most;
        int given;
        int drownedMinutes;
        boolean wasPlayed;
        boolean hasBroken;

        Turn(Act act) {
            this.act = act;
        }

        void open(int minute) {
            begin = minute;
            last = lastIfBegunAt(minute);
            wasPlayed = true;
        }

        int lastIfBegunAt(int minute) {
            return minute + act.minutes - 1;
        }

        void move(int stopping, int going) {
            standing += stopping - going;
            most = Math.max(most, standing);
        }

        boolean breaksNow() {
            return most >= BIG_CIRCLE && standing < LEAST_CIRCLE;
        }

        void breakAt(int minute) {
            hasBroken = true;
            last = minute;
        }

        void passHat(boolean isRaining) {
            int leaving = standing * 3 * act.line / 100;
            int all = (standing - leaving) * (act.skill + act.line);
            given = isRaining ? all / 2 : all;
        }

        boolean wasGood() {
            return wasPlayed && !hasBroken;
        }

        int tell(char what) {
            switch (what) {
                case 'b':
                    return begin;
                case 'e':
                    return last;
                case 'm':
                    return most;
                case 's':
                    return standing;
                case 'c':
                    return given;
                default:
                    return drownedMinutes;
            }
        }
    }

    /** A pitch, with its turns, and with the turn that plays in the minute at hand. */
    private static final class Pitch {
        final int yard;
        final int echo;
        final boolean isShaded;
        final int[] passers;
        final ArrayList<Turn> turns;
        int next;
        int nextBegin;
        Turn playing;

        Pitch(int yard, int echo, boolean isShaded) {
            this.yard = yard;
            this.echo = echo;
            this.isShaded = isShaded;
            passers = new int[HOURS];
            turns = new ArrayList<Turn>();
        }

        int passersIn(int minute) {
            int hour = minute / MINUTES_OF_HOUR - FIRST_HOUR;
            if (!isIndex(hour, passers.length)) {
                return 0;
            }
            int ofHour = minute % MINUTES_OF_HOUR;
            int many = passers[hour];
            return many * (ofHour + 1) / MINUTES_OF_HOUR - many * ofHour / MINUTES_OF_HOUR;
        }

        int yardsTo(Pitch other) {
            return Math.abs(yard - other.yard);
        }

        int loudnessAt(Pitch other, Act act) {
            return 10 * act.loudness + echo - yardsTo(other);
        }

        void openDay() {
            next = 0;
            nextBegin = FIRST_MINUTE;
            playing = null;
        }

        /** A turn that is over stays the playing one for its last minute, as the others still hear it. */
        void openMinute(int minute) {
            if (playing != null && playing.last < minute) {
                nextBegin = playing.last + PAUSE + 1;
                playing = null;
            }
            if (playing == null && minute == nextBegin && next < turns.size()) {
                beginNext(minute);
            }
        }

        private void beginNext(int minute) {
            Turn turn = turns.get(next);
            if (turn.lastIfBegunAt(minute) > LAST_MINUTE) {
                next = turns.size();
                return;
            }
            turn.open(minute);
            playing = turn;
            next++;
        }

        boolean isOver() {
            return playing == null && next >= turns.size();
        }

        int actsOfTurns() {
            int acts = 0;
            for (int i = 0; i < turns.size(); i++) {
                acts |= 1 << turns.get(i).act.number;
            }
            return acts;
        }

        boolean hasTurnsApart() {
            int over = FIRST_MINUTE - 1;
            for (int i = 0; i < turns.size(); i++) {
                Turn turn = turns.get(i);
                if (turn.wasPlayed && (turn.begin <= over || turn.last < turn.begin)) {
                    return false;
                }
                if (turn.wasPlayed) {
                    over = turn.last;
                }
            }
            return true;
        }
    }

    /** All pitches and all acts. */
    private static final class Street {
        final ArrayList<Pitch> pitches;
        final ArrayList<Act> acts;

        Street() {
            pitches = new ArrayList<Pitch>();
            acts = new ArrayList<Act>();
        }

        boolean hasPitchAt(int yard) {
            for (int i = 0; i < pitches.size(); i++) {
                if (pitches.get(i).yard == yard) {
                    return true;
                }
            }
            return false;
        }

        boolean hasTurnElsewhere(int act, int pitch) {
            for (int i = 0; i < pitches.size(); i++) {
                if (i != pitch && (pitches.get(i).actsOfTurns() & 1 << act) != 0) {
                    return true;
                }
            }
            return false;
        }

        void clearTurns() {
            for (int i = 0; i < pitches.size(); i++) {
                pitches.get(i).turns.clear();
            }
        }

        int makePartners(Act one, Act two) {
            int all = one.partners | two.partners;
            for (int i = 0; i < acts.size(); i++) {
                if ((all & 1 << i) != 0) {
                    acts.get(i).partners = all;
                }
            }
            return Integer.bitCount(all);
        }

        void share(int given, Act act) {
            int partners = Integer.bitCount(act.partners);
            int part = partners > 0 ? given / partners : given;
            for (int i = 0; i < acts.size(); i++) {
                if ((act.partners & 1 << i) != 0) {
                    acts.get(i).money += part;
                }
            }
            act.money += given - part * partners;
        }

        void openDay() {
            for (int i = 0; i < pitches.size(); i++) {
                pitches.get(i).openDay();
            }
        }

        void openMinute(int minute) {
            for (int i = 0; i < pitches.size(); i++) {
                pitches.get(i).openMinute(minute);
            }
        }

        boolean isOver() {
            for (int i = 0; i < pitches.size(); i++) {
                if (!pitches.get(i).isOver()) {
                    return false;
                }
            }
            return true;
        }

        boolean isDrowned(Act act, Pitch here) {
            for (int i = 0; i < pitches.size(); i++) {
                Pitch there = pitches.get(i);
                Turn turn = there.playing;
                if (there != here && turn != null && there.loudnessAt(here, turn.act) > 10 * act.loudness) {
                    return true;
                }
            }
            return false;
        }

        boolean hasPlayingNearer(Pitch here, int distance) {
            for (int i = 0; i < pitches.size(); i++) {
                Pitch there = pitches.get(i);
                if (there != here && there.playing != null && there.yardsTo(here) < distance) {
                    return true;
                }
            }
            return false;
        }

        int countTurns() {
            int count = 0;
            for (int i = 0; i < pitches.size(); i++) {
                count += pitches.get(i).turns.size();
            }
            return count;
        }

        int countGoodTurns() {
            int count = 0;
            for (int i = 0; i < pitches.size(); i++) {
                ArrayList<Turn> turns = pitches.get(i).turns;
                for (int k = 0; k < turns.size(); k++) {
                    count += turns.get(k).wasGood() ? 1 : 0;
                }
            }
            return count;
        }

        int sumMoney() {
            int sum = 0;
            for (int i = 0; i < acts.size(); i++) {
                sum += acts.get(i).money;
            }
            return sum;
        }

        boolean hasActsOnOnePitch() {
            int before = 0;
            for (int i = 0; i < pitches.size(); i++) {
                int here = pitches.get(i).actsOfTurns();
                if ((before & here) != 0) {
                    return false;
                }
                before |= here;
            }
            return true;
        }

        boolean hasTurnsApart() {
            for (int i = 0; i < pitches.size(); i++) {
                if (!pitches.get(i).hasTurnsApart()) {
                    return false;
                }
            }
            return true;
        }
    }

    /** Which acts come ahead of which by customs; a set of acts is a number, an act a bit of it. */
    private static final class Customs {
        final int[] ahead;
        private final int[] ways;

        Customs() {
            ahead = new int[MOST_ACTS];
            ways = new int[1 << MOST_ACTS];
        }

        boolean has(int act, int other) {
            return (ahead[other] & 1 << act) != 0;
        }

        void put(int act, int other) {
            ahead[other] |= 1 << act;
        }

        void take(int act, int other) {
            ahead[other] &= ~(1 << act);
        }

        /** Whether one act comes ahead of another one by customs, perhaps by way of others. */
        boolean leads(int act, int other) {
            int found = ahead[other];
            for (int round = 0; round < MOST_ACTS; round++) {
                for (int i = 0; i < MOST_ACTS; i++) {
                    found |= (found & 1 << i) != 0 ? ahead[i] : 0;
                }
            }
            return (found & 1 << act) != 0;
        }

        int countOrders(int acts) {
            fillWays(acts);
            return ways[0];
        }

        /** The ways to go on behind a set of acts come from those behind the larger sets: from the full one down. */
        private void fillWays(int acts) {
            int full = (1 << acts) - 1;
            ways[full] = 1;
            for (int placed = full - 1; placed >= 0; placed--) {
                int sum = 0;
                for (int act = 0; act < acts; act++) {
                    sum += isNext(act, placed) ? ways[placed | 1 << act] : 0;
                }
                ways[placed] = sum;
            }
        }

        private boolean isNext(int act, int placed) {
            return (placed & 1 << act) == 0 && (ahead[act] & ~placed) == 0;
        }

        int actOfOrder(int order, int place, int acts) {
            fillWays(acts);
            int left = order;
            int placed = 0;
            int found = 0;
            for (int i = 0; i <= place; i++) {
                found = 0;
                while (found < acts - 1 && !(isNext(found, placed) && left < ways[placed | 1 << found])) {
                    left -= isNext(found, placed) ? ways[placed | 1 << found] : 0;
                    found++;
                }
                placed |= 1 << found;
            }
            return found;
        }
    }

    /** The order that was drawn last, with the customs of then. */
    private static final class Lots {
        final int[] drawn;
        private final int[] aheadThen;
        private final int[] hat;
        int size;
        boolean isDrawn;
        int z;

        Lots() {
            drawn = new int[MOST_ACTS];
            aheadThen = new int[MOST_ACTS];
            hat = new int[MOST_ACTS];
            z = 1;
        }

        void draw(Customs customs, int acts) {
            System.arraycopy(customs.ahead, 0, aheadThen, 0, MOST_ACTS);
            int left = (1 << acts) - 1;
            for (int place = 0; place < acts; place++) {
                drawn[place] = drawOne(left, acts);
                left &= ~(1 << drawn[place]);
            }
            size = acts;
            isDrawn = true;
        }

        private int drawOne(int left, int acts) {
            z = (int) (z * SEED_FACTOR % SEED_MODULUS);
            int free = 0;
            for (int act = 0; act < acts; act++) {
                if (isFree(act, left)) {
                    hat[free] = act;
                    free++;
                }
            }
            return free > 0 ? hat[z % free] : 0;
        }

        private boolean isFree(int act, int left) {
            return (left & 1 << act) != 0 && (aheadThen[act] & left) == 0;
        }

        boolean isAllowed() {
            int placed = 0;
            for (int place = 0; place < size; place++) {
                int act = drawn[place];
                if (!isIndex(act, size) || (placed & 1 << act) != 0 || (aheadThen[act] & ~placed) != 0) {
                    return false;
                }
                placed |= 1 << act;
            }
            return true;
        }
    }

    /** Rain and cold; without rain its last minute lies ahead of its first one. */
    private static final class Weather {
        int rainFrom;
        int rainTo;
        int cold;

        Weather() {
            rainTo = -1;
        }

        boolean isRaining(int minute) {
            return minute >= rainFrom && minute <= rainTo;
        }

        int rainMinutes() {
            return rainTo - rainFrom + 1;
        }

        void endRain() {
            rainFrom = 0;
            rainTo = -1;
        }
    }

    /** What constables fine by. */
    private static final class Law {
        int limit;
        int distance;

        Law() {
            limit = MOST_LIMIT;
        }
    }

    /** A constable's visit, with the fine that came of it. */
    private static final class Visit {
        final Pitch pitch;
        final int minute;
        char why;
        int sum;

        Visit(Pitch pitch, int minute) {
            this.pitch = pitch;
            this.minute = minute;
            why = '-';
        }

        /** What is told first is what the act is fined for, the others only come with it. */
        void fine(char what, int pence) {
            why = why == '-' ? what : why;
            sum += pence;
        }
    }

    /** The day minute by minute. */
    private static final class Day {
        private final Street street;
        private final Weather weather;
        private final Law law;
        final ArrayList<Visit> visits;
        boolean isPlayed;
        int number;
        int given;
        int givenInAll;
        int finesInAll;

        Day(Street street, Weather weather, Law law) {
            this.street = street;
            this.weather = weather;
            this.law = law;
            visits = new ArrayList<Visit>();
        }

        void begin() {
            visits.clear();
            isPlayed = false;
            given = 0;
            number++;
        }

        void run() {
            street.openDay();
            for (int minute = FIRST_MINUTE; minute <= LAST_MINUTE && !street.isOver(); minute++) {
                street.openMinute(minute);
                payVisits(minute);
                playMinute(minute);
            }
            isPlayed = true;
        }

        private void payVisits(int minute) {
            for (int i = 0; i < visits.size(); i++) {
                Visit visit = visits.get(i);
                Turn turn = visit.pitch.playing;
                if (visit.minute == minute && turn != null) {
                    judge(visit, turn.act);
                }
            }
        }

        private void judge(Visit visit, Act act) {
            if (act.isUnlawfulFire()) {
                visit.fine('f', FIRE_FINE);
            }
            if (10 * act.loudness + visit.pitch.echo > law.limit) {
                visit.fine('n', NOISE_FINE);
            }
            if (street.hasPlayingNearer(visit.pitch, law.distance)) {
                visit.fine('d', DISTANCE_FINE);
            }
            act.money -= visit.sum;
            finesInAll += visit.sum;
        }

        private void playMinute(int minute) {
            for (int i = 0; i < street.pitches.size(); i++) {
                Pitch pitch = street.pitches.get(i);
                Turn turn = pitch.playing;
                if (turn != null) {
                    gather(pitch, turn, minute);
                    endIfDue(turn, minute);
                }
            }
        }

        private void gather(Pitch pitch, Turn turn, int minute) {
            boolean isWet = weather.isRaining(minute) && !pitch.isShaded;
            boolean isDrowned = street.isDrowned(turn.act, pitch);
            int draw = 10 * turn.act.skill + Math.min(turn.standing, MOST_WHO_DRAW);
            int stopping = pitch.passersIn(minute) * draw / 100;
            int leaving = weather.cold;
            if (isDrowned) {
                stopping /= 2;
                leaving += 10;
                turn.drownedMinutes++;
            }
            if (isWet) {
                stopping = 0;
                leaving += 50;
            }
            turn.move(stopping, turn.standing * leaving / 100);
        }

        private void endIfDue(Turn turn, int minute) {
            if (turn.breaksNow()) {
                turn.breakAt(minute);
            } else if (minute == turn.last) {
                turn.passHat(weather.isRaining(minute));
                street.share(turn.given, turn.act);
                given += turn.given;
                givenInAll += turn.given;
            }
        }
    }

    /** What was given on the days that are over, the last one first. */
    private static final class Diary {
        final int[] given;
        int size;

        Diary() {
            given = new int[MOST_DAYS_KEPT];
        }

        void write(int sum) {
            System.arraycopy(given, 0, given, 1, MOST_DAYS_KEPT - 1);
            given[0] = sum;
            size = Math.min(size + 1, MOST_DAYS_KEPT);
        }
    }
}
