import java.util.Arrays;

/** Aircraft that hold above one another, go down the ladder and land, or divert. */
public final class HoldingStack {

    public static final int BAD_INDEX = -1, BAD_VALUE = -2, NOT_POSSIBLE = -3, FULL = -4, REFUSED = -5, NONE = -6;
    public static final int LIGHT = 0, MEDIUM = 1, HEAVY = 2;
    public static final int HOLDING = 0, LANDED = 1, DIVERTED = 2;
    public static final int TAKEN = 1, SHORT = 2, CROWDED = 3;

    private static final int MOST_AIRCRAFT = 20;
    private static final int LEAST_LEVELS = 4;
    private static final int MOST_LEVELS = 16;
    private static final int LEAST_LAP = 2;
    private static final int MOST_LAP = 8;
    private static final int MOST_LIMIT = 16;
    private static final int MOST_FUEL = 9999;
    private static final int MOST_MINUTES = 99;
    private static final int FORECAST_MINUTES = 600;
    private static final int MOST_TEXT = 80;
    private static final int FIRST_CHARACTER = 32;
    private static final int LAST_CHARACTER = 126;
    private static final int MOST_STATES = 5;
    private static final int SLOTS = 2;
    private static final int STACK_NUMBERS = 18;
    private static final int AIRCRAFT_NUMBERS = 8;

    private final State now = new State();
    /** Where questions let minutes pass; made once, because a question may be asked often. */
    private final State ahead = new State();
    private final History history = new History();
    private final Slots slots = new Slots();
    private final Strips strips = new Strips();

    public HoldingStack() {
    }

    // ---- stack

    public int begin(int levels) {
        if (levels < LEAST_LEVELS || levels > MOST_LEVELS) {
            return BAD_VALUE;
        }
        history.push(now);
        int previous = now.levels;
        now.beginAnew(levels);
        return previous;
    }

    public int setLap(int minutes) {
        if (minutes < LEAST_LAP || minutes > MOST_LAP) {
            return BAD_VALUE;
        }
        history.push(now);
        int previous = now.lap;
        now.changeLap(minutes);
        return previous;
    }

    public int setLimit(int limit) {
        if (limit < 1 || limit > MOST_LIMIT) {
            return BAD_VALUE;
        }
        history.push(now);
        int previous = now.limit;
        now.limit = limit;
        return previous;
    }

    public int setRunway(boolean open) {
        history.push(now);
        int previous = asNumber(now.runwayOpen);
        now.runwayOpen = open;
        return previous;
    }

    public int setLadder(boolean automatic) {
        history.push(now);
        int previous = asNumber(now.ladderAutomatic);
        now.ladderAutomatic = automatic;
        return previous;
    }

    public int enter(int kind, int fuel, int level) {
        Kind entering = Kind.of(kind);
        int error = checkEntry(entering, fuel, level);
        if (error != 0) {
            return error;
        }
        history.push(now);
        return now.admit(entering, fuel, level);
    }

    public int call(int aircraft) {
        int error = checkCall(aircraft);
        if (error != 0) {
            return error;
        }
        history.push(now);
        return now.markCalled(aircraft);
    }

    public int pass(int minutes) {
        if (minutes < 1 || minutes > MOST_MINUTES) {
            return BAD_VALUE;
        }
        history.push(now);
        return now.passMinutes(minutes);
    }

    // ---- what there is

    public int level(int level) {
        if (!now.hasLevel(level)) {
            return BAD_INDEX;
        }
        Aircraft holder = now.holderOf(level);
        return holder == null ? NONE : holder.number;
    }

    public int aircraft(int aircraft, int what) {
        Aircraft asked = now.numbered(aircraft);
        if (asked == null || what < 0 || what >= AIRCRAFT_NUMBERS) {
            return BAD_INDEX;
        }
        switch (what) {
            case 0:
                return asked.kind.number;
            case 1:
                return asked.fuel;
            case 2:
                return asked.status;
            case 6:
                return asNumber(asked.isShort());
            case 7:
                return asked.isHolding() ? NONE : asked.endTime;
            default:
                return asked.isHolding() ? tellHolding(asked, what) : NONE;
        }
    }

    public int tell(int what) {
        if (what < 0 || what >= STACK_NUMBERS) {
            return BAD_INDEX;
        }
        switch (what) {
            case 0:
                return now.time;
            case 1:
                return now.levels;
            case 2:
                return now.lap;
            case 7:
                return now.steps;
            case 8:
                return now.wait;
            case 9:
                return asNumber(now.runwayOpen);
            case 10:
                return asNumber(now.ladderAutomatic);
            case 11:
                return now.limit;
            case 16:
                return now.reason;
            case 17:
                return history.size;
            default:
                return what < 7 ? tellNumberOfAircraft(what) : tellFuel(what);
        }
    }

    // ---- questions

    public int why(int aircraft) {
        Aircraft asked = now.numbered(aircraft);
        if (asked == null) {
            return BAD_INDEX;
        }
        if (!asked.isHolding()) {
            return 1;
        }
        if (!asked.isOverFix()) {
            return 2;
        }
        if (asked.level == 0 || asked.isShort()) {
            return now.runwayOpen && now.wait == 0 ? 0 : 3;
        }
        if (!now.isFree(asked.level - 1)) {
            return 4;
        }
        return asked.called || now.ladderAutomatic ? 0 : 5;
    }

    public int minutesLeft(int aircraft) {
        if (now.numbered(aircraft) == null) {
            return BAD_INDEX;
        }
        forecast();
        return forecastMinutes(aircraft);
    }

    public int landsWith(int aircraft) {
        if (now.numbered(aircraft) == null) {
            return BAD_INDEX;
        }
        forecast();
        Aircraft then = ahead.numbered(aircraft);
        return then != null && then.status == LANDED ? then.fuel : NONE;
    }

    public int endurance(int aircraft) {
        Aircraft asked = now.numbered(aircraft);
        if (asked == null) {
            return BAD_INDEX;
        }
        return asked.isHolding() ? asked.minutesUntilShort() : NOT_POSSIBLE;
    }

    public int bestLevel(int kind, int fuel) {
        Kind entering = Kind.of(kind);
        if (entering == null) {
            return BAD_INDEX;
        }
        if (!isFuel(fuel)) {
            return BAD_VALUE;
        }
        if (now.isFull()) {
            return FULL;
        }
        int best = NONE;
        int soonest = FORECAST_MINUTES + 1;
        for (int level = 0; level < now.levels; level++) {
            if (now.refusal(entering, fuel, level) == 0) {
                ahead.copyFrom(now);
                int number = ahead.admit(entering, fuel, level);
                int minutes = ahead.minutesToLanding(number, soonest - 1);
                if (minutes != NONE) {
                    best = level;
                    soonest = minutes;
                }
            }
        }
        return best;
    }

    public int lands(int index) {
        if (index < 0) {
            return BAD_INDEX;
        }
        ahead.copyFrom(now);
        int before = 0;
        for (int minute = 0; minute < FORECAST_MINUTES && ahead.mayLand(); minute++) {
            int landed = ahead.passMinute();
            if (landed != NONE) {
                if (before == index) {
                    return landed;
                }
                before++;
            }
        }
        return NONE;
    }

    // ---- text

    public int append(int character) {
        if (character < FIRST_CHARACTER || character > LAST_CHARACTER) {
            return BAD_VALUE;
        }
        return strips.add((char) character) ? strips.length : FULL;
    }

    public int clearText() {
        int previous = strips.length;
        strips.length = 0;
        return previous;
    }

    public int faultPosition() {
        return strips.findFault();
    }

    public int run() {
        if (strips.findFault() != NONE) {
            return NOT_POSSIBLE;
        }
        history.push(now);
        strips.restart();
        int done = 0;
        while (done < MOST_TEXT && strips.readStrip() && carryOutStrip() >= 0) {
            done++;
        }
        return done;
    }

    // ---- states

    public int undo() {
        return history.popInto(now) ? history.size : NOT_POSSIBLE;
    }

    public int keep(int slot) {
        return slots.put(slot, now) ? now.time : BAD_INDEX;
    }

    public int restore(int slot) {
        if (slot < 0 || slot >= SLOTS) {
            return BAD_INDEX;
        }
        State kept = slots.get(slot);
        if (kept == null) {
            return NOT_POSSIBLE;
        }
        history.push(now);
        now.copyFrom(kept);
        return now.time;
    }

    public long checksum() {
        long h = 157;
        for (int what = 0; what < STACK_NUMBERS; what++) {
            h = 31 * h + tell(what);
        }
        forecast();
        for (int number = 0; number < now.count; number++) {
            for (int what = 0; what < AIRCRAFT_NUMBERS; what++) {
                h = 31 * h + aircraft(number, what);
            }
            h = 31 * h + why(number);
            h = 31 * h + forecastMinutes(number);
        }
        for (int level = 0; level < now.levels; level++) {
            h = 31 * h + level(level);
        }
        return h;
    }

    // ---- helpers of the methods above

    private static int asNumber(boolean value) {
        return value ? 1 : 0;
    }

    private static boolean isFuel(int fuel) {
        return fuel >= 1 && fuel <= MOST_FUEL;
    }

    private static int tellHolding(Aircraft holder, int what) {
        if (what == 3) {
            return holder.level;
        }
        return what == 4 ? holder.place : asNumber(holder.called);
    }

    private int tellNumberOfAircraft(int what) {
        if (what == 3) {
            return now.count;
        }
        return now.countOf(what == 4 ? HOLDING : what == 5 ? LANDED : DIVERTED);
    }

    private int tellFuel(int what) {
        if (what == 12) {
            return now.fuelEntered;
        }
        if (what == 13) {
            return now.fuelBurned;
        }
        return what == 14 ? now.fuelLanded : now.fuelDiverted;
    }

    /** The error of an entry, or 0. A refusal sets the reason here, because the reason stays though nothing is recorded. */
    private int checkEntry(Kind kind, int fuel, int level) {
        if (kind == null || !now.hasLevel(level)) {
            return BAD_INDEX;
        }
        if (!isFuel(fuel)) {
            return BAD_VALUE;
        }
        if (now.isFull()) {
            return FULL;
        }
        int refusal = now.refusal(kind, fuel, level);
        if (refusal == 0) {
            return 0;
        }
        now.reason = refusal;
        return REFUSED;
    }

    /** The error of a call down the ladder, or 0. */
    private int checkCall(int number) {
        Aircraft called = now.numbered(number);
        if (called == null) {
            return BAD_INDEX;
        }
        return called.isHolding() && called.level > 0 && !called.called ? 0 : NOT_POSSIBLE;
    }

    /** Carries out the strip that was read last, unrecorded, because run() is recorded as one call. */
    private int carryOutStrip() {
        int error;
        switch (strips.letter) {
            case '+':
                error = checkEntry(strips.kind, strips.fuel, strips.number);
                return error != 0 ? error : now.admit(strips.kind, strips.fuel, strips.number);
            case 'c':
                error = checkCall(strips.number);
                return error != 0 ? error : now.markCalled(strips.number);
            case 't':
                return now.passMinutes(strips.number);
            default:
                now.runwayOpen = strips.letter == 'o';
                return 0;
        }
    }

    private void forecast() {
        ahead.copyFrom(now);
        for (int minute = 0; minute < FORECAST_MINUTES && ahead.mayLand(); minute++) {
            ahead.passMinute();
        }
    }

    /** What minutesLeft() answers, from the latest forecast. */
    private int forecastMinutes(int number) {
        Aircraft current = now.numbered(number);
        Aircraft then = ahead.numbered(number);
        if (current == null || then == null || then.status != LANDED) {
            return NONE;
        }
        // The end time is that at the beginning of the minute in which it landed, so that minute is added.
        return current.status == LANDED ? 0 : then.endTime - now.time + 1;
    }

    /** The rate, the reserve and the wake of each kind. */
    private enum Kind {
        LIGHT(HoldingStack.LIGHT, 4, 40, 2),
        MEDIUM(HoldingStack.MEDIUM, 9, 100, 3),
        HEAVY(HoldingStack.HEAVY, 18, 220, 4);

        final int number;
        final int rate;
        final int reserve;
        final int wake;

        Kind(int number, int rate, int reserve, int wake) {
            this.number = number;
            this.rate = rate;
            this.reserve = reserve;
            this.wake = wake;
        }

        /** The kind of this number, or null if there is none. */
        static Kind of(int number) {
            switch (number) {
                case HoldingStack.LIGHT:
                    return LIGHT;
                case HoldingStack.MEDIUM:
                    return MEDIUM;
                case HoldingStack.HEAVY:
                    return HEAVY;
                default:
                    return null;
            }
        }
    }

    /** An aircraft. While it is HOLDING its end time means nothing; afterwards its level, place and call mean nothing. */
    private static final class Aircraft {
        final int number;
        Kind kind = Kind.LIGHT;
        int fuel;
        int status;
        int level;
        int place;
        boolean called;
        int endTime;

        Aircraft(int number) {
            this.number = number;
        }

        void copyFrom(Aircraft other) {
            kind = other.kind;
            fuel = other.fuel;
            status = other.status;
            level = other.level;
            place = other.place;
            called = other.called;
            endTime = other.endTime;
        }

        boolean isHolding() {
            return status == HOLDING;
        }

        boolean isOverFix() {
            return place == 0;
        }

        boolean isShort() {
            return fuel <= kind.reserve;
        }

        boolean mustDivert() {
            return 2 * fuel < kind.reserve;
        }

        int burnPerMinute() {
            return kind.rate - kind.rate * level / 40;
        }

        int minutesUntilShort() {
            int spare = fuel - kind.reserve;
            int burn = burnPerMinute();
            return spare <= 0 || burn <= 0 ? 0 : (spare + burn - 1) / burn;
        }

        int burnForMinute() {
            int burned = Math.min(burnPerMinute(), fuel);
            fuel -= burned;
            return burned;
        }

        void flyMinute(int lap) {
            place = place + 1 >= lap ? 0 : place + 1;
        }
    }

    /** All that undo() and restore() bring back. */
    private static final class State {
        final Aircraft[] aircraft = new Aircraft[MOST_AIRCRAFT];
        /** The number of the aircraft on each level, or NONE. */
        final int[] holders = new int[MOST_LEVELS];
        int count;
        int levels = 10;
        int lap = 4;
        int limit = MOST_LIMIT;
        boolean runwayOpen = true;
        boolean ladderAutomatic = true;
        int wait;
        int time;
        int steps;
        int fuelEntered;
        int fuelBurned;
        int fuelLanded;
        int fuelDiverted;
        int reason;

        State() {
            for (int number = 0; number < aircraft.length; number++) {
                aircraft[number] = new Aircraft(number);
            }
            Arrays.fill(holders, NONE);
        }

        void copyFrom(State other) {
            count = other.count;
            levels = other.levels;
            lap = other.lap;
            limit = other.limit;
            runwayOpen = other.runwayOpen;
            ladderAutomatic = other.ladderAutomatic;
            wait = other.wait;
            time = other.time;
            steps = other.steps;
            fuelEntered = other.fuelEntered;
            fuelBurned = other.fuelBurned;
            fuelLanded = other.fuelLanded;
            fuelDiverted = other.fuelDiverted;
            reason = other.reason;
            for (int number = 0; number < aircraft.length && number < count; number++) {
                Aircraft copied = other.numbered(number);
                if (copied != null) {
                    aircraft[number].copyFrom(copied);
                }
            }
            for (int level = 0; level < holders.length && level < other.holders.length; level++) {
                holders[level] = other.holders[level];
            }
        }

        void beginAnew(int newLevels) {
            levels = newLevels;
            count = 0;
            Arrays.fill(holders, NONE);
            wait = 0;
            time = 0;
            steps = 0;
            fuelEntered = 0;
            fuelBurned = 0;
            fuelLanded = 0;
            fuelDiverted = 0;
            reason = 0;
        }

        void changeLap(int minutes) {
            lap = minutes;
            for (int level = 0; level < levels; level++) {
                Aircraft holder = holderOf(level);
                if (holder != null && holder.place >= lap) {
                    holder.place = 0;
                }
            }
        }

        boolean hasLevel(int level) {
            return level >= 0 && level < levels && level < holders.length;
        }

        boolean isFull() {
            return count >= aircraft.length;
        }

        /** The aircraft of this number, or null if there is none. */
        Aircraft numbered(int number) {
            return number >= 0 && number < count && number < aircraft.length ? aircraft[number] : null;
        }

        /** The aircraft that is HOLDING on this level, or null if there is none. */
        Aircraft holderOf(int level) {
            return hasLevel(level) ? numbered(holders[level]) : null;
        }

        boolean isFree(int level) {
            return hasLevel(level) && holders[level] == NONE;
        }

        private void setHolder(int level, int number) {
            if (level >= 0 && level < holders.length) {
                holders[level] = number;
            }
        }

        int countOf(int status) {
            int found = 0;
            for (int number = 0; number < aircraft.length && number < count; number++) {
                if (aircraft[number].status == status) {
                    found++;
                }
            }
            return found;
        }

        /** The reason for which an aircraft that would enter is refused, or 0. */
        int refusal(Kind kind, int fuel, int level) {
            if (!isFree(level)) {
                return TAKEN;
            }
            if (fuel <= kind.reserve) {
                return SHORT;
            }
            return countOf(HOLDING) >= limit ? CROWDED : 0;
        }

        /** Lets an aircraft enter that is not refused, and returns its number. */
        int admit(Kind kind, int fuel, int level) {
            if (count < 0 || count >= aircraft.length) {
                return FULL;
            }
            Aircraft entering = aircraft[count];
            count++;
            entering.kind = kind;
            entering.fuel = fuel;
            entering.status = HOLDING;
            entering.level = level;
            entering.place = 1;
            entering.called = false;
            setHolder(level, entering.number);
            fuelEntered += fuel;
            reason = 0;
            return entering.number;
        }

        int markCalled(int number) {
            Aircraft asked = numbered(number);
            if (asked == null) {
                return BAD_INDEX;
            }
            asked.called = true;
            return asked.level;
        }

        int passMinutes(int minutes) {
            int landed = 0;
            for (int minute = 0; minute < minutes; minute++) {
                if (passMinute() != NONE) {
                    landed++;
                }
            }
            return landed;
        }

        /** The minutes after which it is LANDED, or NONE if it is not after the most. */
        int minutesToLanding(int number, int most) {
            for (int minute = 1; minute <= most && mayLand(); minute++) {
                if (passMinute() == number) {
                    return minute;
                }
            }
            return NONE;
        }

        /** Whether any aircraft can still land if only minutes pass; forecasts stop early where none can. */
        boolean mayLand() {
            return runwayOpen && countOf(HOLDING) > 0;
        }

        /** Lets a minute pass and returns the aircraft that landed in it, or NONE. */
        int passMinute() {
            burnAndFly();
            divertStarved();
            int landed = landOne();
            goDownLadder();
            time++;
            return landed;
        }

        private void burnAndFly() {
            for (int level = 0; level < levels; level++) {
                Aircraft holder = holderOf(level);
                if (holder != null) {
                    fuelBurned += holder.burnForMinute();
                    holder.flyMinute(lap);
                }
            }
        }

        private void divertStarved() {
            for (int level = 0; level < levels; level++) {
                Aircraft holder = holderOf(level);
                if (holder != null && holder.mustDivert()) {
                    leave(holder, DIVERTED);
                    fuelDiverted += holder.fuel;
                }
            }
        }

        private int landOne() {
            if (wait > 0) {
                wait--;
            }
            if (!runwayOpen || wait > 0) {
                return NONE;
            }
            Aircraft landing = nextToLand();
            if (landing == null) {
                return NONE;
            }
            leave(landing, LANDED);
            fuelLanded += landing.fuel;
            wait = landing.kind.wake;
            return landing.number;
        }

        private Aircraft nextToLand() {
            Aircraft shortest = null;
            for (int level = 0; level < levels; level++) {
                Aircraft holder = holderOf(level);
                if (holder != null && holder.isOverFix() && holder.isShort()
                        && (shortest == null || holder.fuel < shortest.fuel)) {
                    shortest = holder;
                }
            }
            if (shortest != null) {
                return shortest;
            }
            Aircraft lowest = holderOf(0);
            return lowest != null && lowest.isOverFix() ? lowest : null;
        }

        private void leave(Aircraft leaving, int status) {
            setHolder(leaving.level, NONE);
            leaving.status = status;
            leaving.endTime = time;
        }

        private void goDownLadder() {
            for (int level = 1; level < levels; level++) {
                Aircraft holder = holderOf(level);
                if (holder != null && holder.isOverFix() && isFree(level - 1) && (ladderAutomatic || holder.called)) {
                    setHolder(level, NONE);
                    setHolder(level - 1, holder.number);
                    holder.level = level - 1;
                    holder.called = false;
                    steps++;
                }
            }
        }
    }

    /** The latest states, the oldest one first. */
    private static final class History {
        private final State[] states = new State[MOST_STATES];
        int size;

        History() {
            for (int i = 0; i < states.length; i++) {
                states[i] = new State();
            }
        }

        void push(State state) {
            if (size >= states.length) {
                dropOldest();
            }
            if (size >= 0 && size < states.length) {
                states[size].copyFrom(state);
                size++;
            }
        }

        /** Moves the oldest state behind the others, so that its room is used again. */
        private void dropOldest() {
            for (int i = 1; i < states.length; i++) {
                State oldest = states[i - 1];
                states[i - 1] = states[i];
                states[i] = oldest;
            }
            size = states.length - 1;
        }

        boolean popInto(State state) {
            if (size <= 0 || size > states.length) {
                return false;
            }
            size--;
            state.copyFrom(states[size]);
            return true;
        }
    }

    /** The states that keep() keeps. */
    private static final class Slots {
        private final State[] states = new State[SLOTS];
        private final boolean[] filled = new boolean[SLOTS];

        Slots() {
            for (int slot = 0; slot < states.length; slot++) {
                states[slot] = new State();
            }
        }

        private boolean has(int slot) {
            return slot >= 0 && slot < states.length && slot < filled.length;
        }

        boolean put(int slot, State state) {
            if (!has(slot)) {
                return false;
            }
            states[slot].copyFrom(state);
            filled[slot] = true;
            return true;
        }

        /** The state in this slot, or null if it is empty. */
        State get(int slot) {
            return has(slot) && filled[slot] ? states[slot] : null;
        }
    }

    /** The text, and what was read of it: strip by strip, up to the first fault. */
    private static final class Strips {
        /** Stands for the end of the text; no character of it has this code. */
        private static final char END = 0;

        private final char[] text = new char[MOST_TEXT];
        int length;
        private int position;
        private int fault = NONE;
        char letter;
        Kind kind;
        int fuel;
        /** The level, the aircraft or the minutes, as the letter has it. */
        int number;

        boolean add(char character) {
            if (length < 0 || length >= text.length) {
                return false;
            }
            text[length] = character;
            length++;
            return true;
        }

        void restart() {
            position = 0;
            fault = NONE;
        }

        int findFault() {
            restart();
            boolean more = true;
            for (int strip = 0; strip < MOST_TEXT && more; strip++) {
                more = readStrip();
            }
            return fault;
        }

        /** Whether there was one more strip, and it had no fault. */
        boolean readStrip() {
            if (fault != NONE || position >= length) {
                return false;
            }
            letter = peek();
            position++;
            switch (letter) {
                case '+':
                    readEntry();
                    break;
                case 'c':
                    number = readNumber(0, MOST_AIRCRAFT - 1);
                    break;
                case 't':
                    number = readNumber(1, MOST_MINUTES);
                    break;
                case 'o':
                case 'x':
                    break;
                default:
                    fail(position - 1);
            }
            expect(';');
            return fault == NONE;
        }

        private void readEntry() {
            kind = readKind();
            fuel = readNumber(1, MOST_FUEL);
            expect('@');
            number = readNumber(0, MOST_LEVELS - 1);
        }

        private Kind readKind() {
            char found = peek();
            if (found != 'l' && found != 'm' && found != 'h') {
                fail(position);
            }
            position++;
            return found == 'l' ? Kind.LIGHT : found == 'm' ? Kind.MEDIUM : Kind.HEAVY;
        }

        private int readNumber(int least, int most) {
            int first = position;
            int digits = peek() == '0' ? 1 : 4;
            int value = 0;
            for (int i = 0; i < digits && isDigit(peek()); i++) {
                value = 10 * value + (peek() - '0');
                position++;
            }
            if (position == first || value < least || value > most) {
                fail(first);
            }
            return value;
        }

        private void expect(char wanted) {
            if (peek() == wanted) {
                position++;
            } else {
                fail(position);
            }
        }

        /** Only the first fault counts: what is read behind it has no meaning. */
        private void fail(int where) {
            if (fault == NONE) {
                fault = where;
            }
        }

        private char peek() {
            return position >= 0 && position < length && position < text.length ? text[position] : END;
        }

        private static boolean isDigit(char character) {
            return character >= '0' && character <= '9';
        }
    }
}
