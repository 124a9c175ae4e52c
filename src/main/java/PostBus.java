import java.util.NoSuchElementException;

/** A mountain line of single roads with passing places, its runs, loads, snow, trains and waiting rules. */
public final class PostBus {
    public static final int NONE = -1;

    private static final int MOST_PLACES = 10;
    private static final int MOST_STRETCH_MINUTES = 30;
    private static final int MOST_RUNS = 12;
    private static final int MOST_SEATS = 40;
    private static final int MOST_ROOM = 40;
    private static final int MOST_LOADS = 80;
    private static final int MOST_SNOWS = 20;
    private static final int TRAINS = 8;
    private static final int LAST_SETTING_OUT = 400;
    private static final int LAST_MINUTE = 600;
    private static final int MOST_MINUTES_A_CALL = 200;
    private static final int MOST_TRIED = 5;

    private static final int MOST_SIGNS = 800;
    private static final int MOST_LINES = 24;
    private static final int MOST_WAIT = 60;
    private static final int MOST_DIGITS = 4;
    private static final int MOST_LETTERS = 8;
    private static final int MOST_NESTED = 5;
    // Five levels with three open operators each, and one value more, would be 16 at once.
    private static final int STACK = 32;
    private static final int NO_TRAIN = 999;

    private static final int FAULT_STANDS_WRONG = 1;
    private static final int FAULT_NUMBER = 4;
    private static final int FAULT_TOO_MUCH = 5;
    private static final int FAULT_PLACE = 16;

    private static final int AHEAD = 0;
    private static final int STANDS = 1;
    private static final int DRIVES = 2;
    private static final int OVER = 3;

    private static final int PERSON = 0;
    private static final int LETTERS = 1;
    private static final int MILK = 2;

    private static final int WAITS = 0;
    private static final int INSIDE = 1;
    private static final int OUT = 2;

    // Kinds of tokens, and of the steps of a rule: the signs ( ) < = + - ; are their own kinds, all below NUMBER.
    private static final int END = 0;
    private static final int NO_TOKEN = 1;
    private static final int NUMBER = 128;
    private static final int FIRST_WORD = 129;
    private static final int AT = 129;
    private static final int WAIT = 130;
    private static final int WHEN = 131;
    private static final int AND = 132;
    private static final int UP = 133;
    private static final int PEOPLE = 134;
    private static final int THINGS = 135;
    private static final int LATE = 136;
    private static final int LAST = 137;
    private static final int HOUR = 138;
    private static final int TRAIN = 139;
    // One word each MOST_LETTERS signs, in the order of their kinds, so that no texts need be made to compare.
    private static final String WORDS =
        "at      wait    when    and     up      people  things  late    last    hour    train   ";
    private static final String SIGNS = "()<=+-;";
    private static final int CODE_VALUE = 256;

    private final Road road;
    private final Tape tape;
    private final Rules rules;
    private final Reader reader;
    private final World world;
    // Kept for best() alone, so that trying a minute makes nothing new.
    private final World eve;
    private final World trial;
    private int minutesOnTheWay;

    public PostBus() {
        road = new Road();
        tape = new Tape();
        rules = new Rules();
        reader = new Reader();
        world = new World(road, rules);
        eve = new World(road, rules);
        trial = new World(road, rules);
        minutesOnTheWay = NONE;
    }

    public int place(int minutes, boolean passing) {
        boolean told = world.fleet.size > 0 || world.freight.size > 0;
        if (told || !within(minutes, 1, MOST_STRETCH_MINUTES) || road.places >= MOST_PLACES) {
            return NONE;
        }
        return road.addPlace(minutes, passing);
    }

    public int run(boolean up, int minute, int seats, int room) {
        if (road.places < 2 || !maySetOut(minute) || world.fleet.size >= MOST_RUNS) {
            return NONE;
        }
        if (!within(seats, 1, MOST_SEATS) || !within(room, 0, MOST_ROOM)) {
            return NONE;
        }
        return world.fleet.add(up, minute, seats, room);
    }

    public int load(int kind, int from, int to, int minute) {
        if (!within(kind, PERSON, MILK) || !within(minute, 0, LAST_MINUTE) || world.freight.size >= MOST_LOADS) {
            return NONE;
        }
        if (!road.hasPlace(from) || !road.hasPlace(to) || from == to) {
            return NONE;
        }
        return world.freight.add(kind, from, to, minute);
    }

    public boolean train(int k, int place, int minute) {
        if (!within(k, 0, TRAINS - 1) || !road.hasPlace(place) || !within(minute, 0, LAST_MINUTE)) {
            return false;
        }
        road.setTrain(k, place, minute);
        return true;
    }

    public boolean snow(int stretch, int low, int high) {
        if (!road.hasStretch(stretch) || low < 1 || high < low || road.snows >= MOST_SNOWS) {
            return false;
        }
        road.addSnow(stretch, low, high);
        return true;
    }

    public int feed(long a, long b, long c) {
        tape.addEight(a);
        tape.addEight(b);
        tape.addEight(c);
        return tape.length;
    }

    public int text() {
        int fault = reader.read(tape, road.places);
        tape.length = 0;
        if (fault == 0) {
            rules.copyFrom(reader.draft);
        }
        return fault;
    }

    public int minutes(int n) {
        if (!within(n, 0, MOST_MINUTES_A_CALL) || world.now + n > LAST_MINUTE) {
            return NONE;
        }
        world.goOnUntil(world.now + n);
        return world.now;
    }

    public int best(int run, int low, int high) {
        if (!world.fleet.isAhead(run) || !maySetOut(low) || !maySetOut(high)) {
            return NONE;
        }
        if (low > high || high - low >= MOST_TRIED) {
            return NONE;
        }
        int bestMinute = NONE;
        int least = LAST_MINUTE;
        eve.copyFrom(world);
        for (int minute = low; minute <= high; minute++) {
            // Up to the eve of its setting out the run touches nothing, so the minutes tried share that time.
            eve.fleet.minute[run] = minute;
            eve.goOnUntil(minute - 1);
            trial.copyFrom(eve);
            int needed = trial.minutesUntilOver(run, least);
            if (needed != NONE && needed < least) {
                least = needed;
                bestMinute = minute;
            }
        }
        if (bestMinute != NONE) {
            minutesOnTheWay = least;
        }
        return bestMinute;
    }

    public int takes() {
        return minutesOnTheWay;
    }

    public boolean shift(int run, int minute) {
        if (!world.fleet.isAhead(run) || !maySetOut(minute)) {
            return false;
        }
        world.fleet.minute[run] = minute;
        return true;
    }

    public int look(int run, int what) throws NoSuchElementException {
        Fleet fleet = world.fleet;
        if (!within(run, 0, fleet.size - 1)) {
            throw new NoSuchElementException("no such run");
        }
        switch (what) {
            case 0: return fleet.state[run];
            case 1: return fleet.place[run];
            case 2: return fleet.left[run];
            case 3: return fleet.people[run];
            case 4: return fleet.things[run];
            case 5: return fleet.coins[run];
            case 6: return fleet.over[run];
            case 7: return fleet.minute[run];
            case 8: return fleet.up[run] ? 1 : 0;
            case 9: return fleet.since[run];
            default: throw new NoSuchElementException("no such thing to look at");
        }
    }

    public int lies(int load, int what) throws NoSuchElementException {
        Freight freight = world.freight;
        if (!within(load, 0, freight.size - 1)) {
            throw new NoSuchElementException("no such load");
        }
        switch (what) {
            case 0: return freight.state[load];
            case 1: return freight.run[load];
            case 2: return freight.out[load];
            case 3: return freight.paid[load];
            default: throw new NoSuchElementException("no such thing to tell");
        }
    }

    public int shut(int stretch) {
        if (!road.hasStretch(stretch)) {
            return NONE;
        }
        return road.isShut(stretch, world.now) ? 1 : 0;
    }

    public int count(int what) {
        switch (what) {
            case 0: return road.places;
            case 1: return world.fleet.size;
            case 2: return world.freight.size;
            case 3: return world.now;
            case 4: return world.fleet.howManyOver();
            case 5: return world.freight.howManyOut();
            case 6: return world.freight.howManyWait(world.now);
            case 7: return world.fleet.allCoins();
            case 8: return rules.lines;
            case 9: return tape.length;
            default: return NONE;
        }
    }

    private boolean maySetOut(int minute) {
        return minute > world.now && minute <= LAST_SETTING_OUT;
    }

    private static boolean within(int value, int low, int high) {
        return value >= low && value <= high;
    }

    /** What is told of the line, and does not move by itself: places, stretches, snow, trains. */
    private static final class Road {
        int places;
        final int[] stretchMinutes;
        final boolean[] passing;
        int snows;
        final int[] snowStretch;
        final int[] snowLow;
        final int[] snowHigh;
        final int[] trainPlace;
        final int[] trainMinute;

        Road() {
            places = 1;
            stretchMinutes = new int[MOST_PLACES];
            passing = new boolean[MOST_PLACES];
            snowStretch = new int[MOST_SNOWS];
            snowLow = new int[MOST_SNOWS];
            snowHigh = new int[MOST_SNOWS];
            trainPlace = new int[TRAINS];
            trainMinute = new int[TRAINS];
            for (int k = 0; k < TRAINS; k++) {
                trainPlace[k] = NONE;
            }
        }

        boolean hasPlace(int place) {
            return place >= 0 && place < places;
        }

        boolean hasStretch(int stretch) {
            return stretch >= 0 && stretch < places - 1;
        }

        boolean isPassing(int place) {
            return place <= 0 || place >= places - 1 || passing[place];
        }

        int addPlace(int minutes, boolean isPassingPlace) {
            if (places >= MOST_PLACES) {
                return NONE;
            }
            stretchMinutes[places - 1] = minutes;
            passing[places] = isPassingPlace;
            places++;
            return places - 1;
        }

        void setTrain(int k, int place, int minute) {
            if (k >= 0 && k < TRAINS) {
                trainPlace[k] = place;
                trainMinute[k] = minute;
            }
        }

        int minutesUntilTrain(int k, int place, int now) {
            if (k < 0 || k >= TRAINS || trainPlace[k] != place) {
                return NO_TRAIN;
            }
            return trainMinute[k] > now ? trainMinute[k] - now : 0;
        }

        void addSnow(int stretch, int low, int high) {
            if (snows < MOST_SNOWS) {
                snowStretch[snows] = stretch;
                snowLow[snows] = low;
                snowHigh[snows] = high;
                snows++;
            }
        }

        boolean isShut(int stretch, int minute) {
            for (int k = 0; k < snows; k++) {
                if (snowStretch[k] == stretch && snowLow[k] <= minute && minute <= snowHigh[k]) {
                    return true;
                }
            }
            return false;
        }

        int lowerEndOfBlock(int stretch) {
            int place = stretch;
            while (place > 0 && !isPassing(place)) {
                place--;
            }
            return place;
        }

        int upperEndOfBlock(int stretch) {
            int place = stretch + 1;
            while (place < places && !isPassing(place)) {
                place++;
            }
            return place;
        }
    }

    /** The runs, a row for each thing that is known of them. */
    private static final class Fleet {
        int size;
        final boolean[] up;
        final int[] seats;
        final int[] room;
        final int[] minute;
        final int[] state;
        final int[] place;
        final int[] left;
        final int[] people;
        final int[] things;
        final int[] coins;
        final int[] over;
        final int[] since;

        Fleet() {
            up = new boolean[MOST_RUNS];
            seats = new int[MOST_RUNS];
            room = new int[MOST_RUNS];
            minute = new int[MOST_RUNS];
            state = new int[MOST_RUNS];
            place = new int[MOST_RUNS];
            left = new int[MOST_RUNS];
            people = new int[MOST_RUNS];
            things = new int[MOST_RUNS];
            coins = new int[MOST_RUNS];
            over = new int[MOST_RUNS];
            since = new int[MOST_RUNS];
        }

        int add(boolean goesUp, int setsOut, int itsSeats, int itsRoom) {
            if (size >= MOST_RUNS) {
                return NONE;
            }
            up[size] = goesUp;
            minute[size] = setsOut;
            seats[size] = itsSeats;
            room[size] = itsRoom;
            state[size] = AHEAD;
            place[size] = NONE;
            size++;
            return size - 1;
        }

        boolean isAhead(int run) {
            return run >= 0 && run < size && state[run] == AHEAD;
        }

        boolean isLastOfItsWay(int run) {
            for (int other = 0; other < size; other++) {
                if (other != run && state[other] == AHEAD && up[other] == up[run]) {
                    return false;
                }
            }
            return true;
        }

        int stretchOf(int run) {
            return up[run] ? place[run] : place[run] - 1;
        }

        int placeAhead(int run) {
            return up[run] ? place[run] + 1 : place[run] - 1;
        }

        void stand(int run, int where, int now) {
            state[run] = STANDS;
            place[run] = where;
            since[run] = now;
            left[run] = 0;
        }

        void leave(int run, int stretchMinutes) {
            state[run] = DRIVES;
            since[run] = 0;
            left[run] = stretchMinutes;
        }

        void end(int run, int now) {
            state[run] = OVER;
            since[run] = 0;
            over[run] = now;
        }

        int howManyOver() {
            int sum = 0;
            for (int run = 0; run < size; run++) {
                sum += state[run] == OVER ? 1 : 0;
            }
            return sum;
        }

        int allCoins() {
            int sum = 0;
            for (int run = 0; run < size; run++) {
                sum += coins[run];
            }
            return sum;
        }

        void copyFrom(Fleet other) {
            size = other.size;
            for (int run = 0; run < MOST_RUNS; run++) {
                up[run] = other.up[run];
            }
            System.arraycopy(other.seats, 0, seats, 0, MOST_RUNS);
            System.arraycopy(other.room, 0, room, 0, MOST_RUNS);
            System.arraycopy(other.minute, 0, minute, 0, MOST_RUNS);
            System.arraycopy(other.state, 0, state, 0, MOST_RUNS);
            System.arraycopy(other.place, 0, place, 0, MOST_RUNS);
            System.arraycopy(other.left, 0, left, 0, MOST_RUNS);
            System.arraycopy(other.people, 0, people, 0, MOST_RUNS);
            System.arraycopy(other.things, 0, things, 0, MOST_RUNS);
            System.arraycopy(other.coins, 0, coins, 0, MOST_RUNS);
            System.arraycopy(other.over, 0, over, 0, MOST_RUNS);
            System.arraycopy(other.since, 0, since, 0, MOST_RUNS);
        }
    }

    /** The loads, a row for each thing that is known of them. */
    private static final class Freight {
        int size;
        final int[] kind;
        final int[] from;
        final int[] to;
        final int[] minute;
        final int[] state;
        final int[] run;
        final int[] out;
        final int[] paid;

        Freight() {
            kind = new int[MOST_LOADS];
            from = new int[MOST_LOADS];
            to = new int[MOST_LOADS];
            minute = new int[MOST_LOADS];
            state = new int[MOST_LOADS];
            run = new int[MOST_LOADS];
            out = new int[MOST_LOADS];
            paid = new int[MOST_LOADS];
        }

        int add(int itsKind, int itsFrom, int itsTo, int itsMinute) {
            if (size >= MOST_LOADS) {
                return NONE;
            }
            kind[size] = itsKind;
            from[size] = itsFrom;
            to[size] = itsTo;
            minute[size] = itsMinute;
            state[size] = WAITS;
            run[size] = NONE;
            size++;
            return size - 1;
        }

        /** The load that gets in next where a run stands, of the persons or of the things; NONE without one. */
        int nextAt(int place, boolean up, boolean persons, int now) {
            int next = NONE;
            for (int load = 0; load < size; load++) {
                boolean comes = state[load] == WAITS && from[load] == place && minute[load] <= now
                    && (kind[load] == PERSON) == persons && (to[load] > place) == up;
                if (comes && (next == NONE || rank(load) < rank(next))) {
                    next = load;
                }
            }
            return next;
        }

        private int rank(int load) {
            return kind[load] == PERSON ? minute[load] : -Math.abs(to[load] - from[load]);
        }

        int fare(int load) {
            int stretches = Math.abs(to[load] - from[load]);
            if (kind[load] == PERSON) {
                return 2 + stretches;
            }
            return kind[load] == LETTERS ? 1 : (stretches + 1) / 2;
        }

        int howManyOut() {
            int sum = 0;
            for (int load = 0; load < size; load++) {
                sum += state[load] == OUT ? 1 : 0;
            }
            return sum;
        }

        int howManyWait(int now) {
            int sum = 0;
            for (int load = 0; load < size; load++) {
                sum += state[load] == WAITS && minute[load] <= now ? 1 : 0;
            }
            return sum;
        }

        void copyFrom(Freight other) {
            size = other.size;
            System.arraycopy(other.kind, 0, kind, 0, MOST_LOADS);
            System.arraycopy(other.from, 0, from, 0, MOST_LOADS);
            System.arraycopy(other.to, 0, to, 0, MOST_LOADS);
            System.arraycopy(other.minute, 0, minute, 0, MOST_LOADS);
            System.arraycopy(other.state, 0, state, 0, MOST_LOADS);
            System.arraycopy(other.run, 0, run, 0, MOST_LOADS);
            System.arraycopy(other.out, 0, out, 0, MOST_LOADS);
            System.arraycopy(other.paid, 0, paid, 0, MOST_LOADS);
        }
    }

    /** The runs and loads at one minute, and how they go on; best() lets copies of it go on. */
    private static final class World {
        final Road road;
        final Rules rules;
        final Fleet fleet;
        final Freight freight;
        final int[] stack;
        int now;

        World(Road itsRoad, Rules itsRules) {
            road = itsRoad;
            rules = itsRules;
            fleet = new Fleet();
            freight = new Freight();
            stack = new int[STACK];
        }

        void copyFrom(World other) {
            now = other.now;
            fleet.copyFrom(other.fleet);
            freight.copyFrom(other.freight);
        }

        void goOnUntil(int last) {
            for (int minute = now + 1; minute <= last; minute++) {
                tick();
            }
        }

        /** How long the run is on its way; NONE if it is not OVER in time, or in fewer minutes than the limit. */
        int minutesUntilOver(int run, int limit) {
            int setsOut = fleet.minute[run];
            int last = Math.min(LAST_MINUTE, setsOut + limit - 1);
            for (int minute = now + 1; minute <= last; minute++) {
                tick();
                if (fleet.state[run] == OVER) {
                    return now - setsOut;
                }
            }
            return NONE;
        }

        private void tick() {
            now++;
            for (int run = 0; run < fleet.size; run++) {
                if (fleet.state[run] == DRIVES) {
                    driveOn(run);
                }
            }
            for (int run = 0; run < fleet.size; run++) {
                if (fleet.state[run] == AHEAD && fleet.minute[run] <= now) {
                    fleet.stand(run, fleet.up[run] ? 0 : road.places - 1, now);
                }
            }
            for (int run = 0; run < fleet.size; run++) {
                if (fleet.state[run] == STANDS) {
                    takeIn(run);
                    leaveIfFree(run);
                }
            }
        }

        private void driveOn(int run) {
            fleet.left[run]--;
            if (fleet.left[run] > 0) {
                return;
            }
            int place = fleet.placeAhead(run);
            fleet.stand(run, place, now);
            letOut(run);
            if (place <= 0 || place >= road.places - 1) {
                fleet.end(run, now);
            }
        }

        private void letOut(int run) {
            for (int load = 0; load < freight.size; load++) {
                boolean here = freight.state[load] == INSIDE && freight.run[load] == run
                    && freight.to[load] == fleet.place[run];
                if (here) {
                    freight.state[load] = OUT;
                    freight.out[load] = now;
                    countIn(run, load, -1);
                }
            }
        }

        private void countIn(int run, int load, int more) {
            if (freight.kind[load] == PERSON) {
                fleet.people[run] += more;
            } else {
                fleet.things[run] += more;
            }
        }

        private void takeIn(int run) {
            takeInUpTo(run, true, fleet.seats[run] - fleet.people[run]);
            takeInUpTo(run, false, fleet.room[run] - fleet.things[run]);
        }

        private void takeInUpTo(int run, boolean persons, int most) {
            for (int free = most; free > 0; free--) {
                int load = freight.nextAt(fleet.place[run], fleet.up[run], persons, now);
                if (load == NONE) {
                    return;
                }
                freight.state[load] = INSIDE;
                freight.run[load] = run;
                freight.paid[load] = freight.fare(load);
                fleet.coins[run] += freight.paid[load];
                countIn(run, load, 1);
            }
        }

        private void leaveIfFree(int run) {
            int stretch = fleet.stretchOf(run);
            if (fleet.since[run] >= now || !road.hasStretch(stretch) || road.isShut(stretch, now)) {
                return;
            }
            if (isWayFree(run, stretch) && !isHeld(run)) {
                fleet.leave(run, road.stretchMinutes[stretch]);
            }
        }

        private boolean isWayFree(int run, int stretch) {
            int low = road.lowerEndOfBlock(stretch);
            int high = road.upperEndOfBlock(stretch);
            int ahead = fleet.placeAhead(run);
            boolean narrowAhead = !road.isPassing(ahead);
            for (int other = 0; other < fleet.size; other++) {
                boolean otherWay = fleet.up[other] != fleet.up[run];
                if (fleet.state[other] == DRIVES) {
                    int itsStretch = fleet.stretchOf(other);
                    if (itsStretch == stretch || otherWay && itsStretch >= low && itsStretch < high) {
                        return false;
                    }
                } else if (fleet.state[other] == STANDS) {
                    int itsPlace = fleet.place[other];
                    if (narrowAhead && itsPlace == ahead || otherWay && itsPlace > low && itsPlace < high) {
                        return false;
                    }
                }
            }
            return true;
        }

        private boolean isHeld(int run) {
            int stood = now - fleet.since[run];
            for (int line = 0; line < rules.lines; line++) {
                boolean here = rules.place[line] == fleet.place[run] && stood < rules.wait[line];
                if (here && valueOf(line, run) != 0) {
                    return true;
                }
            }
            return false;
        }

        private int valueOf(int line, int run) {
            int top = 0;
            int end = rules.endOf(line);
            for (int step = rules.startOf(line); step < end; step++) {
                int kind = rules.kindOf(step);
                if (kind == NUMBER || kind >= UP) {
                    if (top < STACK) {
                        stack[top] = fact(kind, rules.numberOf(step), run);
                        top++;
                    }
                } else if (top >= 2) {
                    top--;
                    stack[top - 1] = join(kind, stack[top - 1], stack[top]);
                }
            }
            return top > 0 ? stack[0] : 0;
        }

        private static int join(int kind, int a, int b) {
            switch (kind) {
                case '+': return a + b;
                case '-': return a - b;
                case '<': return a < b ? 1 : 0;
                case '=': return a == b ? 1 : 0;
                default: return a != 0 && b != 0 ? 1 : 0;
            }
        }

        private int fact(int kind, int number, int run) {
            switch (kind) {
                case UP: return fleet.up[run] ? 1 : 0;
                case PEOPLE: return fleet.people[run];
                case THINGS: return fleet.things[run];
                case LATE: return late(run);
                case LAST: return fleet.isLastOfItsWay(run) ? 1 : 0;
                case HOUR: return now / 60 % 24;
                case TRAIN: return road.minutesUntilTrain(number, fleet.place[run], now);
                default: return number;
            }
        }

        private int late(int run) {
            int low = fleet.up[run] ? 0 : fleet.place[run];
            int high = fleet.up[run] ? fleet.place[run] : road.places - 1;
            int due = fleet.minute[run];
            for (int stretch = low; stretch >= 0 && stretch < high && stretch < MOST_PLACES; stretch++) {
                due += road.stretchMinutes[stretch] + 1;
            }
            return now - due;
        }
    }

    /** The signs that were fed and not yet read. */
    private static final class Tape {
        final char[] signs;
        int length;

        Tape() {
            signs = new char[MOST_SIGNS];
        }

        void addEight(long bytes) {
            for (int shift = 56; shift >= 0; shift -= 8) {
                int sign = (int) (bytes >>> shift) & 255;
                boolean counts = sign == 10 || sign >= 32 && sign <= 126;
                if (counts && length < MOST_SIGNS) {
                    signs[length] = (char) sign;
                    length++;
                }
            }
        }

        /** Where the signs from low to high that begin at a place come to their end. */
        int endOfSigns(int start, char low, char high) {
            int end = start;
            while (end < length && signs[end] >= low && signs[end] <= high) {
                end++;
            }
            return end;
        }

        int numberAt(int start, int end) {
            int number = 0;
            for (int k = start; k < end && k < length; k++) {
                number = number * 10 + (signs[k] - '0');
            }
            return number;
        }

        boolean hasWord(int start, int end, int slot) {
            for (int k = 0; k < MOST_LETTERS; k++) {
                char sign = start + k < end ? signs[start + k] : ' ';
                if (WORDS.charAt(slot + k) != sign) {
                    return false;
                }
            }
            return true;
        }
    }

    /** The lines of a text: place and minutes of each, and its test as steps on a stack, operators last. */
    private static final class Rules {
        int lines;
        final int[] place;
        final int[] wait;
        final int[] end;
        final int[] steps;
        int size;

        Rules() {
            place = new int[MOST_LINES];
            wait = new int[MOST_LINES];
            end = new int[MOST_LINES];
            steps = new int[MOST_SIGNS];
        }

        void clear() {
            lines = 0;
            size = 0;
        }

        void addStep(int kind, int number) {
            if (size < MOST_SIGNS) {
                steps[size] = kind + CODE_VALUE * number;
                size++;
            }
        }

        /** Ends a line whose steps have been added. */
        void addLine(int itsPlace, int itsWait) {
            if (lines < MOST_LINES) {
                place[lines] = itsPlace;
                wait[lines] = itsWait;
                end[lines] = size;
                lines++;
            }
        }

        int startOf(int line) {
            return line > 0 && line < lines ? end[line - 1] : 0;
        }

        int endOf(int line) {
            return line >= 0 && line < lines ? end[line] : 0;
        }

        int kindOf(int step) {
            return step >= 0 && step < size ? steps[step] % CODE_VALUE : END;
        }

        int numberOf(int step) {
            return step >= 0 && step < size ? steps[step] / CODE_VALUE : 0;
        }

        void copyFrom(Rules other) {
            lines = other.lines;
            size = other.size;
            System.arraycopy(other.place, 0, place, 0, MOST_LINES);
            System.arraycopy(other.wait, 0, wait, 0, MOST_LINES);
            System.arraycopy(other.end, 0, end, 0, MOST_LINES);
            System.arraycopy(other.steps, 0, steps, 0, MOST_SIGNS);
        }
    }

    /** Reads a tape into a draft; its methods answer 0 or the kind of the fault that the next token has. */
    private static final class Reader {
        final Rules draft;
        final int[] kinds;
        final int[] numbers;
        final int[] spots;
        int tokens;
        int next;

        Reader() {
            draft = new Rules();
            kinds = new int[MOST_SIGNS];
            numbers = new int[MOST_SIGNS];
            spots = new int[MOST_SIGNS];
        }

        int read(Tape tape, int places) {
            cutIntoTokens(tape);
            draft.clear();
            next = 0;
            int fault = 0;
            for (int line = 0; line <= MOST_LINES && fault == 0 && kind() != END; line++) {
                fault = readLine(line, places);
            }
            int spot = next < tokens ? spots[next] : tape.length;
            return fault == 0 ? 0 : fault + FAULT_PLACE * spot;
        }

        private void cutIntoTokens(Tape tape) {
            tokens = 0;
            int at = 0;
            while (at < tape.length && at < MOST_SIGNS) {
                char sign = tape.signs[at];
                int end = at + 1;
                if (sign >= 'a' && sign <= 'z') {
                    end = Math.max(end, tape.endOfSigns(at, 'a', 'z'));
                    addToken(wordKind(tape, at, end), 0, at);
                } else if (sign >= '0' && sign <= '9') {
                    end = Math.max(end, tape.endOfSigns(at, '0', '9'));
                    boolean fits = end - at <= MOST_DIGITS;
                    addToken(fits ? NUMBER : NO_TOKEN, fits ? tape.numberAt(at, end) : 0, at);
                } else if (sign != 10 && sign != ' ') {
                    addToken(SIGNS.indexOf(sign) >= 0 ? sign : NO_TOKEN, 0, at);
                }
                at = end;
            }
        }

        private static int wordKind(Tape tape, int start, int end) {
            if (end - start > MOST_LETTERS) {
                return NO_TOKEN;
            }
            for (int kind = FIRST_WORD; kind <= TRAIN; kind++) {
                if (tape.hasWord(start, end, (kind - FIRST_WORD) * MOST_LETTERS)) {
                    return kind;
                }
            }
            return NO_TOKEN;
        }

        private void addToken(int kind, int number, int spot) {
            if (tokens < MOST_SIGNS) {
                kinds[tokens] = kind;
                numbers[tokens] = number;
                spots[tokens] = spot;
                tokens++;
            }
        }

        private int kind() {
            return next < tokens ? kinds[next] : END;
        }

        private int number() {
            return next < tokens ? numbers[next] : 0;
        }

        private int pass(int kind) {
            if (kind() != kind) {
                return FAULT_STANDS_WRONG;
            }
            next++;
            return 0;
        }

        private int passNumber(int low, int high) {
            if (kind() != NUMBER) {
                return FAULT_STANDS_WRONG;
            }
            if (!within(number(), low, high)) {
                return FAULT_NUMBER;
            }
            next++;
            return 0;
        }

        private int readLine(int index, int places) {
            if (kind() == AT && index >= MOST_LINES) {
                return FAULT_TOO_MUCH;
            }
            int fault = pass(AT);
            int place = number();
            fault = fault != 0 ? fault : passNumber(0, places - 1);
            fault = fault != 0 ? fault : pass(WAIT);
            int wait = number();
            fault = fault != 0 ? fault : passNumber(1, MOST_WAIT);
            fault = fault != 0 ? fault : pass(WHEN);
            fault = fault != 0 ? fault : expression(0);
            fault = fault != 0 ? fault : pass(';');
            draft.addLine(place, wait);
            return fault;
        }

        private int expression(int depth) {
            int fault = 0;
            boolean more = true;
            for (int tests = 0; more && tests < MOST_SIGNS; tests++) {
                fault = sum(depth);
                int sign = kind();
                if (fault == 0 && (sign == '<' || sign == '=')) {
                    next++;
                    fault = sum(depth);
                    draft.addStep(sign, 0);
                }
                if (tests > 0) {
                    draft.addStep(AND, 0);
                }
                more = fault == 0 && kind() == AND;
                next += more ? 1 : 0;
            }
            return fault;
        }

        private int sum(int depth) {
            int fault = part(depth);
            for (int parts = 1; fault == 0 && parts < MOST_SIGNS; parts++) {
                int sign = kind();
                if (sign != '+' && sign != '-') {
                    return 0;
                }
                next++;
                fault = part(depth);
                draft.addStep(sign, 0);
            }
            return fault;
        }

        private int part(int depth) {
            int kind = kind();
            if (kind != NUMBER && kind != '(' && kind < UP) {
                return FAULT_STANDS_WRONG;
            }
            if (depth >= MOST_NESTED) {
                return FAULT_TOO_MUCH;
            }
            int number = number();
            next++;
            int fault = 0;
            if (kind == '(') {
                fault = expression(depth + 1);
                return fault != 0 ? fault : pass(')');
            }
            if (kind == TRAIN) {
                number = number();
                fault = passNumber(0, TRAINS - 1);
            }
            draft.addStep(kind, number);
            return fault;
        }
    }
}
