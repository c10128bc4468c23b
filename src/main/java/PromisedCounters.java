/**
 * Counters that many change at once, each change promised within bounds until it is settled.
 * What each call promises is told in the document, ../shared/DOC.md.
 */
public final class PromisedCounters {
    /** There is nothing to return. */
    public static final int NONE = -1;

    private static final int COUNTERS = 4;
    private static final int OWNERS = 6;
    private static final int SETTINGS = 2;
    private static final int MOST_PROMISES = 16;
    private static final int MOST_SAVED = 6;
    private static final int MOST_CHARACTERS = 60;

    /** A bound is at most this size, below or above 0. */
    private static final int BOUND_SIZE = 999;
    private static final int CHANGE_SIZE = 99;
    private static final int MOST_UNITS = 99;
    private static final int MOST_UNITS_ASKED = 200;
    private static final int LAST_TIME = 9999;

    /** Setting 0: promises that an owner can have. */
    private static final int PER_OWNER = 0;
    /** Setting 1: how long a promise holds. */
    private static final int HOLDS = 1;
    private static final int MOST_HOLDS = 99;

    private static final int NO_REASON = 0;
    private static final int TOO_MANY_PROMISES = 1;
    private static final int TOO_MANY_OF_OWNER = 2;
    private static final int LOW_TOO_LOW = 3;
    private static final int HIGH_TOO_HIGH = 4;

    private static final long DIGEST_START = 2713L;
    private static final int DIGEST_VALUE = 5;
    private static final int DIGEST_COUNTER = 1;
    private static final int DIGEST_CHANGE = 7;
    private static final int DIGEST_UNITS = 5;

    private final State state = new State();
    private final SavedStates saved = new SavedStates();
    private final Outcomes outcomes = new Outcomes();
    private final ChangeReader reader = new ChangeReader();
    private final char[] buffer = new char[MOST_CHARACTERS];
    private int length;

    /** Creates counters without promises, at the time 0, with an empty buffer. */
    public PromisedCounters() {
        length = 0;
    }

    // ---- counters

    /** Changes the bounds of a counter; returns how far apart they were. */
    public int bounds(int counter, int least, int most)
            throws IndexOutOfBoundsException, IllegalArgumentException, IllegalStateException {
        checkIndex(counter, COUNTERS);
        checkArgument(least, -BOUND_SIZE, BOUND_SIZE);
        checkArgument(most, least, BOUND_SIZE);
        if (state.lowOf(counter) < least || state.highOf(counter) > most) {
            throw new IllegalStateException("the counter could leave these bounds");
        }
        saved.save(state);
        int before = state.most[counter] - state.least[counter];
        state.least[counter] = least;
        state.most[counter] = most;
        return before;
    }

    /** Changes a setting; returns the previous value. */
    public int set(int setting, int value) throws IndexOutOfBoundsException, IllegalArgumentException {
        checkIndex(setting, SETTINGS);
        checkArgument(value, 1, setting == PER_OWNER ? MOST_PROMISES : MOST_HOLDS);
        saved.save(state);
        int before = state.settings[setting];
        state.settings[setting] = value;
        return before;
    }

    // ---- promises

    /** Promises a change; returns the number of the promise. */
    public int promise(int owner, int counter, int by)
            throws IndexOutOfBoundsException, IllegalArgumentException, IllegalStateException {
        checkIndex(owner, OWNERS);
        checkIndex(counter, COUNTERS);
        checkChange(by);
        checkNoReason(owner, counter, by, NONE);
        saved.save(state);
        return state.addPromise(owner, counter, by, NONE);
    }

    /** Promises a transfer; returns the number of the promise. */
    public int transfer(int owner, int from, int to, int many)
            throws IndexOutOfBoundsException, IllegalArgumentException, IllegalStateException {
        checkIndex(owner, OWNERS);
        checkIndex(from, COUNTERS);
        checkIndex(to, COUNTERS);
        if (from == to) {
            throw new IllegalArgumentException("a transfer goes to another counter");
        }
        checkArgument(many, 1, CHANGE_SIZE);
        checkNoReason(owner, from, -many, to);
        saved.save(state);
        return state.addPromise(owner, from, -many, to);
    }

    /** Settles a promise; returns the value of its counter then. */
    public int settle(int promise) throws IndexOutOfBoundsException {
        checkIndex(promise, state.promises);
        saved.save(state);
        int changed = state.counter[promise];
        state.settleWhole(promise);
        return state.value[changed];
    }

    /** Settles a part of a promise; returns the rest of its change. */
    public int settlePart(int promise, int part) throws IndexOutOfBoundsException, IllegalArgumentException {
        checkIndex(promise, state.promises);
        checkArgument(part, 1, Math.abs(state.change[promise]) - 1);
        saved.save(state);
        int signed = state.change[promise] < 0 ? -part : part;
        state.addToCounters(promise, signed);
        state.change[promise] -= signed;
        return state.change[promise];
    }

    /** Cancels a promise; returns how many promises there are then. */
    public int cancel(int promise) throws IndexOutOfBoundsException {
        checkIndex(promise, state.promises);
        saved.save(state);
        state.cancelWhole(promise);
        return state.promises;
    }

    /** Renews a promise; returns how many units longer it holds than before. */
    public int renew(int promise) throws IndexOutOfBoundsException {
        checkIndex(promise, state.promises);
        saved.save(state);
        int before = state.until[promise];
        state.until[promise] = state.time + state.settings[HOLDS];
        return state.until[promise] - before;
    }

    /** Settles or cancels all promises of an owner; returns how many there were. */
    public int finish(int owner, boolean isSettled) throws IndexOutOfBoundsException {
        checkIndex(owner, OWNERS);
        saved.save(state);
        int before = state.promises;
        for (int p = before - 1; p >= 0; p--) {
            if (state.owner[p] != owner) {
                continue;
            }
            if (isSettled) {
                state.settleWhole(p);
            } else {
                state.cancelWhole(p);
            }
        }
        return before - state.promises;
    }

    /** Lets time pass; returns how many promises lapse in it. */
    public int pass(int units) throws IllegalArgumentException, IllegalStateException {
        checkArgument(units, 1, MOST_UNITS);
        if (state.time + units > LAST_TIME) {
            throw new IllegalStateException("time ends there");
        }
        saved.save(state);
        int before = state.promises;
        state.time += units;
        // Behind the last unit the same ones have lapsed as unit by unit.
        for (int p = before - 1; p >= 0; p--) {
            if (state.until[p] <= state.time) {
                state.lapse(p);
            }
        }
        return before - state.promises;
    }

    // ---- texts

    /** Appends a character to the buffer; returns the new length. */
    public int append(int code) throws IllegalArgumentException, IllegalStateException {
        checkArgument(code, 33, 126);
        if (length >= MOST_CHARACTERS) {
            throw new IllegalStateException("the buffer is full");
        }
        buffer[length] = (char) code;
        length++;
        return length;
    }

    /** Clears the buffer; returns the length that it had. */
    public int clearBuffer() {
        int before = length;
        length = 0;
        return before;
    }

    /** Finds the first syntax error of the buffer; returns its index, or the length without one. */
    public int firstError() {
        reader.begin();
        for (int i = 0; i < length; i++) {
            if (!reader.reads(buffer[i])) {
                return i;
            }
        }
        return length;
    }

    /** Promises the changes in the buffer up to the first refused one; returns how many are promised. */
    public int promiseAll() throws IllegalArgumentException {
        if (firstError() < length || !reader.isComplete()) {
            throw new IllegalArgumentException("the buffer is not complete changes");
        }
        saved.save(state);
        int promised = promiseParts();
        length = 0;
        return promised;
    }

    /** Restores the latest saved state; returns how many are left. */
    public int undo() throws IllegalStateException {
        if (saved.many == 0) {
            throw new IllegalStateException("there is no saved state");
        }
        saved.restoreInto(state);
        return saved.many;
    }

    // ---- looks; nothing is changed

    /** Returns a property of a counter. */
    public int counter(int counter, int what) throws IndexOutOfBoundsException, IllegalArgumentException {
        checkIndex(counter, COUNTERS);
        checkArgument(what, 0, 9);
        switch (what) {
            case 0: return state.value[counter];
            case 1: return state.least[counter];
            case 2: return state.most[counter];
            case 3: return state.lowOf(counter);
            case 4: return state.highOf(counter);
            case 5: return state.promisesChanging(counter);
            case 6: return state.sumOfChanges(counter);
            case 7: return state.roomBelow(counter, state.time);
            case 8: return state.roomAbove(counter);
            default: return outcomes.manyOf(state, counter);
        }
    }

    /** Returns a property of a promise. */
    public int promiseOf(int promise, int what) throws IndexOutOfBoundsException, IllegalArgumentException {
        checkIndex(promise, state.promises);
        checkArgument(what, 0, 5);
        switch (what) {
            case 0: return state.owner[promise];
            case 1: return state.counter[promise];
            case 2: return state.change[promise];
            case 3: return state.other[promise];
            case 4: return state.until[promise];
            default: return state.until[promise] - state.time;
        }
    }

    /** Returns a property of an owner. */
    public int owner(int owner, int what) throws IndexOutOfBoundsException, IllegalArgumentException {
        checkIndex(owner, OWNERS);
        checkArgument(what, 0, 4);
        switch (what) {
            case 0: return state.promisesOf(owner);
            case 1: return state.settled[owner];
            case 2: return state.cancelled[owner];
            case 3: return state.lapsed[owner];
            default: return state.sizesOf(owner);
        }
    }

    /** Returns a number. */
    public int count(int what) throws IllegalArgumentException {
        checkArgument(what, 0, 9);
        switch (what) {
            case 0: return state.time;
            case 1: return state.promises;
            case 2: return state.transfers();
            case 3: return state.made;
            case 4: return sumOf(state.settled);
            case 5: return sumOf(state.cancelled);
            case 6: return sumOf(state.lapsed);
            case 7: return sumOf(state.value);
            case 8: return state.firstLapse();
            default: return saved.many;
        }
    }

    /** Returns a setting. */
    public int setting(int setting) throws IndexOutOfBoundsException {
        checkIndex(setting, SETTINGS);
        return state.settings[setting];
    }

    // ---- what would be; nothing is changed

    /** Tells why a promise would be refused, 0 if it would not. */
    public int whyNot(int owner, int counter, int by) throws IndexOutOfBoundsException, IllegalArgumentException {
        checkIndex(owner, OWNERS);
        checkIndex(counter, COUNTERS);
        checkChange(by);
        return state.reasonAgainst(owner, counter, by, NONE);
    }

    /** Returns the fewest promises whose settlement would give a counter a value, or NONE. */
    public int canBe(int counter, int value) throws IndexOutOfBoundsException {
        checkIndex(counter, COUNTERS);
        return outcomes.fewestFor(state, counter, value);
    }

    /** Returns the greatest size of a change that could be promised, 0 if there is none. */
    public int mostFor(int owner, int counter, boolean isMore) throws IndexOutOfBoundsException {
        checkIndex(owner, OWNERS);
        checkIndex(counter, COUNTERS);
        if (state.reasonOfNumber(owner) != NO_REASON) {
            return 0;
        }
        int room = isMore ? state.roomAbove(counter) : state.roomBelow(counter, state.time);
        return Math.min(room, CHANGE_SIZE);
    }

    /** Tells what time would bring. */
    public int ifPassed(int units, int what) throws IllegalArgumentException {
        checkArgument(units, 0, MOST_UNITS_ASKED);
        checkArgument(what, 0, COUNTERS);
        int then = state.time + units;
        return what == 0 ? state.lapsingBy(then) : state.roomBelow(what - 1, then);
    }

    /** Returns how much of the room is held by promises. */
    public double heldShare() {
        int held = 0;
        int room = 0;
        for (int c = 0; c < COUNTERS; c++) {
            held += state.highOf(c) - state.lowOf(c);
            room += state.most[c] - state.least[c];
        }
        return room == 0 ? 0.0 : (double) held / (double) room;
    }

    /** Computes a hash of the whole state. */
    public long digest() {
        long hash = DIGEST_START;
        for (int what = 0; what <= 9; what++) {
            hash = mixed(hash, count(what));
        }
        for (int i = 0; i < SETTINGS; i++) {
            hash = mixed(hash, setting(i));
        }
        hash = mixedCounters(hash);
        hash = mixedPromises(hash);
        hash = mixedOwners(hash);
        for (int what = 0; what <= COUNTERS; what++) {
            hash = mixed(hash, ifPassed(DIGEST_UNITS, what));
        }
        hash = mixed(hash, bitsOfShare(heldShare()));
        hash = mixed(hash, length);
        for (int i = 0; i < length; i++) {
            hash = mixed(hash, buffer[i]);
        }
        return hash;
    }

    private long mixedCounters(long before) {
        long hash = before;
        for (int c = 0; c < COUNTERS; c++) {
            for (int what = 0; what <= 9; what++) {
                hash = mixed(hash, counter(c, what));
            }
            hash = mixed(hash, canBe(c, DIGEST_VALUE));
            hash = mixed(hash, mostFor(0, c, true));
            hash = mixed(hash, mostFor(0, c, false));
        }
        return hash;
    }

    private long mixedPromises(long before) {
        long hash = before;
        for (int p = 0; p < state.promises; p++) {
            for (int what = 0; what <= 5; what++) {
                hash = mixed(hash, promiseOf(p, what));
            }
        }
        return hash;
    }

    private long mixedOwners(long before) {
        long hash = before;
        for (int o = 0; o < OWNERS; o++) {
            for (int what = 0; what <= 4; what++) {
                hash = mixed(hash, owner(o, what));
            }
            hash = mixed(hash, whyNot(o, DIGEST_COUNTER, DIGEST_CHANGE));
        }
        return hash;
    }

    private static long mixed(long hash, long value) {
        return 31L * hash + value;
    }

    /**
     * The bits of a share, 0.0 to 1.0, put together by hand: the call of Double that gives them
     * is not in the part of the library that the program keeps to.
     */
    private static long bitsOfShare(double share) {
        if (share <= 0.0) {
            return 0L;
        }
        double scaled = share;
        long exponent = 1023L;
        // The least share above 0 is 1 of 7992, so that far fewer doublings are needed.
        for (int i = 0; i < 64 && scaled < 1.0; i++) {
            scaled = scaled * 2.0;
            exponent--;
        }
        long fraction = (long) ((scaled - 1.0) * 4503599627370496.0);
        return (exponent << 52) | fraction;
    }

    /** Promises the parts of a buffer that is known to be complete; returns how many are promised. */
    private int promiseParts() {
        int promised = 0;
        reader.begin();
        for (int i = 0; i < length; i++) {
            reader.reads(buffer[i]);
            boolean endsPart = i + 1 == length || buffer[i + 1] == ';';
            if (endsPart) {
                if (state.reasonAgainst(reader.who, reader.from, reader.by(), reader.to) != NO_REASON) {
                    return promised;
                }
                state.addPromise(reader.who, reader.from, reader.by(), reader.to);
                promised++;
            }
        }
        return promised;
    }

    private void checkNoReason(int owner, int counter, int by, int to) {
        if (state.reasonAgainst(owner, counter, by, to) != NO_REASON) {
            throw new IllegalStateException("there is a reason against the promise");
        }
    }

    private static void checkIndex(int index, int size) {
        if (index < 0 || index >= size) {
            throw new IndexOutOfBoundsException("there is none with this number");
        }
    }

    private static void checkArgument(int value, int least, int most) {
        if (value < least || value > most) {
            throw new IllegalArgumentException("the value is out of range");
        }
    }

    private static void checkChange(int by) {
        checkArgument(by, -CHANGE_SIZE, CHANGE_SIZE);
        if (by == 0) {
            throw new IllegalArgumentException("a change is not 0");
        }
    }

    private static int sumOf(int[] row) {
        int sum = 0;
        for (int number : row) {
            sum += number;
        }
        return sum;
    }

    /** All that undo restores. The promises stand in rows, by their numbers. */
    private static final class State {
        int time = 0;
        int promises = 0;
        int made = 0;
        final int[] settings = {6, 10};

        final int[] value = new int[COUNTERS];
        final int[] least = new int[COUNTERS];
        final int[] most = {100, 100, 100, 100};

        final int[] owner = new int[MOST_PROMISES];
        final int[] counter = new int[MOST_PROMISES];
        final int[] change = new int[MOST_PROMISES];
        /** The counter to which a transfer goes, NONE for another promise. */
        final int[] other = new int[MOST_PROMISES];
        final int[] until = new int[MOST_PROMISES];

        final int[] settled = new int[OWNERS];
        final int[] cancelled = new int[OWNERS];
        final int[] lapsed = new int[OWNERS];

        void copyFrom(State from) {
            time = from.time;
            promises = from.promises;
            made = from.made;
            System.arraycopy(from.settings, 0, settings, 0, SETTINGS);
            System.arraycopy(from.value, 0, value, 0, COUNTERS);
            System.arraycopy(from.least, 0, least, 0, COUNTERS);
            System.arraycopy(from.most, 0, most, 0, COUNTERS);
            System.arraycopy(from.owner, 0, owner, 0, MOST_PROMISES);
            System.arraycopy(from.counter, 0, counter, 0, MOST_PROMISES);
            System.arraycopy(from.change, 0, change, 0, MOST_PROMISES);
            System.arraycopy(from.other, 0, other, 0, MOST_PROMISES);
            System.arraycopy(from.until, 0, until, 0, MOST_PROMISES);
            System.arraycopy(from.settled, 0, settled, 0, OWNERS);
            System.arraycopy(from.cancelled, 0, cancelled, 0, OWNERS);
            System.arraycopy(from.lapsed, 0, lapsed, 0, OWNERS);
        }

        /** How a promise changes a counter, 0 if it does not. */
        int changeOf(int p, int c) {
            if (counter[p] == c) {
                return change[p];
            }
            return other[p] == c ? -change[p] : 0;
        }

        int lowOf(int c) {
            return lowThen(c, time);
        }

        /** The low that a counter would have if only time passed until then. */
        private int lowThen(int c, int then) {
            int low = value[c];
            for (int p = 0; p < promises; p++) {
                if (until[p] > then) {
                    low += Math.min(changeOf(p, c), 0);
                }
            }
            return low;
        }

        int highOf(int c) {
            int high = value[c];
            for (int p = 0; p < promises; p++) {
                high += Math.max(changeOf(p, c), 0);
            }
            return high;
        }

        int roomBelow(int c, int then) {
            return lowThen(c, then) - least[c];
        }

        int roomAbove(int c) {
            return most[c] - highOf(c);
        }

        int promisesChanging(int c) {
            int many = 0;
            for (int p = 0; p < promises; p++) {
                if (changeOf(p, c) != 0) {
                    many++;
                }
            }
            return many;
        }

        int sumOfChanges(int c) {
            int sum = 0;
            for (int p = 0; p < promises; p++) {
                sum += changeOf(p, c);
            }
            return sum;
        }

        int promisesOf(int who) {
            int many = 0;
            for (int p = 0; p < promises; p++) {
                if (owner[p] == who) {
                    many++;
                }
            }
            return many;
        }

        int sizesOf(int who) {
            int sum = 0;
            for (int p = 0; p < promises; p++) {
                if (owner[p] == who) {
                    sum += Math.abs(change[p]);
                }
            }
            return sum;
        }

        int transfers() {
            int many = 0;
            for (int p = 0; p < promises; p++) {
                if (other[p] != NONE) {
                    many++;
                }
            }
            return many;
        }

        int lapsingBy(int then) {
            int many = 0;
            for (int p = 0; p < promises; p++) {
                if (until[p] <= then) {
                    many++;
                }
            }
            return many;
        }

        int firstLapse() {
            int first = NONE;
            for (int p = 0; p < promises; p++) {
                if (first == NONE || until[p] < first) {
                    first = until[p];
                }
            }
            return first;
        }

        /** The first reason against a promise; to is NONE but for a transfer. */
        int reasonAgainst(int who, int c, int by, int to) {
            int reason = reasonOfNumber(who);
            if (reason != NO_REASON) {
                return reason;
            }
            if (by < 0 && -by > roomBelow(c, time)) {
                return LOW_TOO_LOW;
            }
            if (by > 0 && by > roomAbove(c)) {
                return HIGH_TOO_HIGH;
            }
            return to != NONE && -by > roomAbove(to) ? HIGH_TOO_HIGH : NO_REASON;
        }

        /** The first reason against any promise of an owner, whatever it changes. */
        int reasonOfNumber(int who) {
            if (promises >= MOST_PROMISES) {
                return TOO_MANY_PROMISES;
            }
            return promisesOf(who) >= settings[PER_OWNER] ? TOO_MANY_OF_OWNER : NO_REASON;
        }

        /** Adds a promise against which there is no reason; returns its number. */
        int addPromise(int who, int c, int by, int to) {
            int p = promises;
            owner[p] = who;
            counter[p] = c;
            change[p] = by;
            other[p] = to;
            until[p] = time + settings[HOLDS];
            promises++;
            made++;
            return p;
        }

        /** Adds an amount to the counter of a promise, as much the other way to that of a transfer. */
        void addToCounters(int p, int amount) {
            value[counter[p]] += amount;
            if (other[p] != NONE) {
                value[other[p]] -= amount;
            }
        }

        void settleWhole(int p) {
            addToCounters(p, change[p]);
            settled[owner[p]]++;
            removeRow(p);
        }

        void cancelWhole(int p) {
            cancelled[owner[p]]++;
            removeRow(p);
        }

        void lapse(int p) {
            lapsed[owner[p]]++;
            removeRow(p);
        }

        private void removeRow(int removed) {
            promises--;
            for (int p = removed; p < promises; p++) {
                owner[p] = owner[p + 1];
                counter[p] = counter[p + 1];
                change[p] = change[p + 1];
                other[p] = other[p + 1];
                until[p] = until[p + 1];
            }
        }
    }

    /** The saved states, the oldest one first; all are made at once, so that no call makes one. */
    private static final class SavedStates {
        private final State[] states = {
            new State(), new State(), new State(), new State(), new State(), new State()
        };
        int many = 0;

        void save(State now) {
            if (many == MOST_SAVED) {
                dropOldest();
            }
            states[many].copyFrom(now);
            many++;
        }

        private void dropOldest() {
            State oldest = states[0];
            for (int i = 1; i < MOST_SAVED; i++) {
                states[i - 1] = states[i];
            }
            states[MOST_SAVED - 1] = oldest;
            many--;
        }

        void restoreInto(State now) {
            if (many > 0) {
                many--;
                now.copyFrom(states[many]);
            }
        }
    }

    /**
     * The values that a counter could have behind the settlement of some of its promises. There is
     * a place for each value from its low to its high, which are as far apart as all the changes are
     * in size.
     */
    private static final class Outcomes {
        /** The fewest promises that give the value, by how far it is above the low; NONE without such. */
        private final int[] fewest = new int[MOST_PROMISES * CHANGE_SIZE + 1];

        int manyOf(State state, int c) {
            int span = fill(state, c);
            int many = 0;
            for (int i = 0; i <= span; i++) {
                if (fewest[i] != NONE) {
                    many++;
                }
            }
            return many;
        }

        int fewestFor(State state, int c, int value) {
            int low = state.lowOf(c);
            if (value < low || value > state.highOf(c)) {
                return NONE;
            }
            fill(state, c);
            return fewest[value - low];
        }

        /** Fills the row; returns the place of the high. */
        private int fill(State state, int c) {
            int low = state.lowOf(c);
            int span = state.highOf(c) - low;
            for (int i = 0; i <= span; i++) {
                fewest[i] = NONE;
            }
            int bottom = state.value[c] - low;
            int top = bottom;
            fewest[bottom] = 0;
            for (int p = 0; p < state.promises; p++) {
                int change = state.changeOf(p, c);
                if (change > 0) {
                    top += change;
                    addUpward(change, bottom, top);
                } else if (change < 0) {
                    bottom += change;
                    addDownward(-change, bottom, top);
                }
            }
            return span;
        }

        /** From the top, so that no place takes the promise twice. */
        private void addUpward(int size, int bottom, int top) {
            for (int i = top; i >= bottom + size; i--) {
                improve(i, i - size);
            }
        }

        /** From the bottom, so that no place takes the promise twice. */
        private void addDownward(int size, int bottom, int top) {
            for (int i = bottom; i <= top - size; i++) {
                improve(i, i + size);
            }
        }

        private void improve(int place, int from) {
            if (fewest[from] == NONE) {
                return;
            }
            int many = fewest[from] + 1;
            if (fewest[place] == NONE || many < fewest[place]) {
                fewest[place] = many;
            }
        }
    }

    /** Reads changes as a text, character by character, and keeps what the latest part says. */
    private static final class ChangeReader {
        private static final int AT_COUNTER = 0;
        private static final int AT_KIND = 1;
        private static final int AT_OTHER = 2;
        private static final int AT_COLON = 3;
        private static final int AT_NUMBER = 4;
        private static final int BEHIND_DIGIT = 5;
        private static final int BEHIND_NUMBER = 6;
        private static final int AT_OWNER = 7;
        private static final int BEHIND_OWNER = 8;

        private int place = AT_COUNTER;
        private boolean isBelow = false;
        private int size = 0;
        int from = 0;
        int to = NONE;
        int who = 0;

        void begin() {
            place = AT_COUNTER;
        }

        /** Whether what has been read is complete changes. */
        boolean isComplete() {
            return place == BEHIND_DIGIT || place == BEHIND_NUMBER || place == BEHIND_OWNER;
        }

        /** The change of the counter that the part names first. */
        int by() {
            return isBelow ? -size : size;
        }

        /** Reads a character; tells whether it was none that is a syntax error. */
        boolean reads(char sign) {
            switch (place) {
                case AT_COUNTER: return readsCounter(sign);
                case AT_KIND: return readsKind(sign);
                case AT_OTHER: return readsOther(sign);
                case AT_COLON: return sign == ':' && goesTo(AT_NUMBER);
                case AT_NUMBER: return readsFirstDigit(sign);
                case BEHIND_DIGIT: return readsSecondDigit(sign) || readsBehindNumber(sign);
                case BEHIND_NUMBER: return readsBehindNumber(sign);
                case AT_OWNER: return readsOwner(sign);
                default: return sign == ';' && goesTo(AT_COUNTER);
            }
        }

        private boolean goesTo(int next) {
            place = next;
            return true;
        }

        private boolean readsCounter(char sign) {
            if (!isDigit(sign, 0, COUNTERS - 1)) {
                return false;
            }
            from = sign - '0';
            to = NONE;
            who = 0;
            return goesTo(AT_KIND);
        }

        private boolean readsKind(char sign) {
            isBelow = sign != '+';
            if (sign == '+' || sign == '-') {
                return goesTo(AT_NUMBER);
            }
            return sign == '>' && goesTo(AT_OTHER);
        }

        private boolean readsOther(char sign) {
            if (!isDigit(sign, 0, COUNTERS - 1) || sign - '0' == from) {
                return false;
            }
            to = sign - '0';
            return goesTo(AT_COLON);
        }

        private boolean readsFirstDigit(char sign) {
            if (!isDigit(sign, 1, 9)) {
                return false;
            }
            size = sign - '0';
            return goesTo(BEHIND_DIGIT);
        }

        private boolean readsSecondDigit(char sign) {
            if (!isDigit(sign, 0, 9)) {
                return false;
            }
            size = 10 * size + (sign - '0');
            return goesTo(BEHIND_NUMBER);
        }

        private boolean readsBehindNumber(char sign) {
            if (sign == 'o') {
                return goesTo(AT_OWNER);
            }
            return sign == ';' && goesTo(AT_COUNTER);
        }

        private boolean readsOwner(char sign) {
            if (!isDigit(sign, 0, OWNERS - 1)) {
                return false;
            }
            who = sign - '0';
            return goesTo(BEHIND_OWNER);
        }

        private static boolean isDigit(char sign, int least, int most) {
            return sign >= '0' + least && sign <= '0' + most;
        }
    }
}
