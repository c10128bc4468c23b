import java.util.ArrayDeque;
import java.util.ArrayList;
import java.util.Arrays;
import java.util.Deque;
import java.util.HashMap;
import java.util.List;
import java.util.Map;
import java.util.Objects;
import java.util.function.IntPredicate;
import java.util.function.ToIntFunction;
import java.util.regex.Pattern;

/** The document once more, as plain as can be, to compare the program with; it shares no code with it. */
final class Model {
    private static final Pattern PART = Pattern.compile("([0-3])(?:[+-]|>(?!\\1)[0-3]:)[1-9][0-9]?(?:o[0-5])?");
    /** Each beginning of changes as a text is whole behind one of these. */
    private static final List<String> ENDS = List.of("", "0", "1", "+1", ":1", "0:1", "1:1", "0+1");

    private record Promised(int owner, int counter, int change, int other, int until) {
        int of(int c) {
            return c == counter ? change : c == other ? -change : 0;
        }

        Promised with(int newChange, int newUntil) {
            return new Promised(owner, counter, newChange, other, newUntil);
        }
    }

    /** What undo restores; ended counts, for each owner, what was settled, cancelled and lapsed. */
    private static final class State {
        int time = 0;
        int made = 0;
        int[] settings = {6, 10};
        int[] value = {0, 0, 0, 0};
        int[] least = {0, 0, 0, 0};
        int[] most = {100, 100, 100, 100};
        int[][] ended = new int[3][6];
        List<Promised> promises = new ArrayList<>();

        State copy() {
            State copy = new State();
            copy.time = time;
            copy.made = made;
            copy.settings = settings.clone();
            copy.value = value.clone();
            copy.least = least.clone();
            copy.most = most.clone();
            copy.ended = Arrays.stream(ended).map(int[]::clone).toArray(int[][]::new);
            copy.promises = new ArrayList<>(promises);
            return copy;
        }
    }

    private static final int SETTLED = 0;
    private static final int CANCELLED = 1;
    private static final int LAPSED = 2;

    private State now = new State();
    private final Deque<State> saved = new ArrayDeque<>();
    private String buffer = "";

    public int bounds(int counter, int least, int most) {
        index(counter, 4);
        range(least, -999, 999);
        range(most, least, 999);
        state(low(counter) >= least && high(counter) <= most);
        save();
        int before = now.most[counter] - now.least[counter];
        now.least[counter] = least;
        now.most[counter] = most;
        return before;
    }

    public int set(int setting, int value) {
        index(setting, 2);
        range(value, 1, setting == 0 ? 16 : 99);
        save();
        int before = now.settings[setting];
        now.settings[setting] = value;
        return before;
    }

    public int promise(int owner, int counter, int by) {
        int reason = whyNot(owner, counter, by);
        state(reason == 0);
        save();
        return add(owner, counter, by, -1);
    }

    public int transfer(int owner, int from, int to, int many) {
        index(owner, 6);
        index(from, 4);
        index(to, 4);
        argument(from != to);
        range(many, 1, 99);
        state(reason(owner, from, -many, to) == 0);
        save();
        return add(owner, from, -many, to);
    }

    public int settle(int promise) {
        index(promise, now.promises.size());
        save();
        int counter = now.promises.get(promise).counter();
        end(promise, SETTLED);
        return now.value[counter];
    }

    public int settlePart(int promise, int part) {
        index(promise, now.promises.size());
        Promised whole = now.promises.get(promise);
        range(part, 1, Math.abs(whole.change()) - 1);
        save();
        int added = part * Integer.signum(whole.change());
        apply(whole.with(added, 0));
        now.promises.set(promise, whole.with(whole.change() - added, whole.until()));
        return whole.change() - added;
    }

    public int cancel(int promise) {
        index(promise, now.promises.size());
        save();
        end(promise, CANCELLED);
        return now.promises.size();
    }

    public int renew(int promise) {
        index(promise, now.promises.size());
        save();
        Promised before = now.promises.get(promise);
        int until = now.time + now.settings[1];
        now.promises.set(promise, before.with(before.change(), until));
        return until - before.until();
    }

    public int finish(int owner, boolean isSettled) {
        index(owner, 6);
        save();
        return endAll(p -> p.owner() == owner ? 1 : 0, isSettled ? SETTLED : CANCELLED);
    }

    public int pass(int units) {
        range(units, 1, 99);
        state(now.time + units <= 9999);
        save();
        int many = 0;
        for (int i = 0; i < units; i++) {
            now.time++;
            many += endAll(p -> p.until() == now.time ? 1 : 0, LAPSED);
        }
        return many;
    }

    public int append(int code) {
        range(code, 33, 126);
        state(buffer.length() < 60);
        buffer += (char) code;
        return buffer.length();
    }

    public int clearBuffer() {
        int before = buffer.length();
        buffer = "";
        return before;
    }

    public int firstError() {
        for (int i = 1; i <= buffer.length(); i++) {
            String beginning = buffer.substring(0, i);
            if (ENDS.stream().noneMatch(end -> isChanges(beginning + end))) {
                return i - 1;
            }
        }
        return buffer.length();
    }

    public int promiseAll() {
        argument(isChanges(buffer));
        save();
        int many = 0;
        for (String part : buffer.split(";")) {
            String[] sides = part.split("o");
            int owner = sides.length == 1 ? 0 : Integer.parseInt(sides[1]);
            int counter = part.charAt(0) - '0';
            boolean isTransfer = part.charAt(1) == '>';
            int other = isTransfer ? part.charAt(2) - '0' : -1;
            int number = Integer.parseInt(sides[0].substring(isTransfer ? 4 : 2));
            int by = part.charAt(1) == '+' ? number : -number;
            if (reason(owner, counter, by, other) != 0) {
                break;
            }
            add(owner, counter, by, other);
            many++;
        }
        buffer = "";
        return many;
    }

    public int undo() {
        state(!saved.isEmpty());
        now = saved.removeLast();
        return saved.size();
    }

    public int counter(int counter, int what) {
        index(counter, 4);
        range(what, 0, 9);
        return switch (what) {
            case 0 -> now.value[counter];
            case 1 -> now.least[counter];
            case 2 -> now.most[counter];
            case 3 -> low(counter);
            case 4 -> high(counter);
            case 5 -> many(p -> p.of(counter) != 0 ? 1 : 0);
            case 6 -> many(p -> p.of(counter));
            case 7 -> low(counter) - now.least[counter];
            case 8 -> now.most[counter] - high(counter);
            default -> outcomes(counter).size();
        };
    }

    public int promiseOf(int promise, int what) {
        index(promise, now.promises.size());
        range(what, 0, 5);
        Promised p = now.promises.get(promise);
        return new int[] {p.owner(), p.counter(), p.change(), p.other(), p.until(), p.until() - now.time}[what];
    }

    public int owner(int owner, int what) {
        index(owner, 6);
        range(what, 0, 4);
        return switch (what) {
            case 0 -> many(p -> p.owner() == owner ? 1 : 0);
            case 4 -> many(p -> p.owner() == owner ? Math.abs(p.change()) : 0);
            default -> now.ended[what - 1][owner];
        };
    }

    public int count(int what) {
        range(what, 0, 9);
        return switch (what) {
            case 0 -> now.time;
            case 1 -> now.promises.size();
            case 2 -> many(p -> p.other() >= 0 ? 1 : 0);
            case 3 -> now.made;
            case 4, 5, 6 -> Arrays.stream(now.ended[what - 4]).sum();
            case 7 -> Arrays.stream(now.value).sum();
            case 8 -> now.promises.stream().mapToInt(Promised::until).min().orElse(-1);
            default -> saved.size();
        };
    }

    public int setting(int setting) {
        index(setting, 2);
        return now.settings[setting];
    }

    public int whyNot(int owner, int counter, int by) {
        index(owner, 6);
        index(counter, 4);
        range(by, -99, 99);
        argument(by != 0);
        return reason(owner, counter, by, -1);
    }

    public int canBe(int counter, int value) {
        index(counter, 4);
        return Objects.requireNonNullElse(outcomes(counter).get(value), -1);
    }

    public int mostFor(int owner, int counter, boolean isMore) {
        index(owner, 6);
        index(counter, 4);
        for (int size = 99; size >= 1; size--) {
            if (reason(owner, counter, isMore ? size : -size, -1) == 0) {
                return size;
            }
        }
        return 0;
    }

    public int ifPassed(int units, int what) {
        range(units, 0, 200);
        range(what, 0, 4);
        int then = now.time + units;
        if (what == 0) {
            return many(p -> p.until() <= then ? 1 : 0);
        }
        int held = many(p -> p.until() <= then ? 0 : Math.min(0, p.of(what - 1)));
        return now.value[what - 1] + held - now.least[what - 1];
    }

    public double heldShare() {
        double held = 0;
        double room = 0;
        for (int c = 0; c < 4; c++) {
            held += high(c) - low(c);
            room += now.most[c] - now.least[c];
        }
        return room == 0 ? 0.0 : held / room;
    }

    public long digest() {
        List<Long> values = new ArrayList<>();
        all(10, what -> values.add((long) count(what)));
        all(2, i -> values.add((long) setting(i)));
        for (int c = 0; c < 4; c++) {
            int counter = c;
            all(10, what -> values.add((long) counter(counter, what)));
            values.add((long) canBe(c, 5));
            values.add((long) mostFor(0, c, true));
            values.add((long) mostFor(0, c, false));
        }
        for (int p = 0; p < now.promises.size(); p++) {
            int promise = p;
            all(6, what -> values.add((long) promiseOf(promise, what)));
        }
        for (int o = 0; o < 6; o++) {
            int owner = o;
            all(5, what -> values.add((long) owner(owner, what)));
            values.add((long) whyNot(o, 1, 7));
        }
        all(5, what -> values.add((long) ifPassed(5, what)));
        values.add(Double.doubleToLongBits(heldShare()));
        values.add((long) buffer.length());
        buffer.chars().forEach(code -> values.add((long) code));
        return values.stream().reduce(2713L, (hash, v) -> 31 * hash + v);
    }

    private static void all(int many, IntPredicate each) {
        for (int i = 0; i < many; i++) {
            each.test(i);
        }
    }

    private static boolean isChanges(String text) {
        return Arrays.stream(text.split(";", -1)).allMatch(part -> PART.matcher(part).matches());
    }

    private int many(ToIntFunction<Promised> each) {
        int sum = 0;
        for (Promised p : now.promises) {
            sum += each.applyAsInt(p);
        }
        return sum;
    }

    private int low(int c) {
        int low = now.value[c];
        for (Promised p : now.promises) {
            low += p.of(c) < 0 ? p.of(c) : 0;
        }
        return low;
    }

    private int high(int c) {
        int high = now.value[c];
        for (Promised p : now.promises) {
            high += p.of(c) > 0 ? p.of(c) : 0;
        }
        return high;
    }

    /** Each value that a counter could have, with the fewest promises that give it. */
    private Map<Integer, Integer> outcomes(int c) {
        Map<Integer, Integer> outcomes = new HashMap<>();
        outcomes.put(now.value[c], 0);
        for (Promised p : now.promises) {
            if (p.of(c) != 0) {
                Map<Integer, Integer> before = new HashMap<>(outcomes);
                before.forEach((value, many) -> outcomes.merge(value + p.of(c), many + 1, Math::min));
            }
        }
        return outcomes;
    }

    private int reason(int owner, int counter, int by, int other) {
        Promised asked = new Promised(owner, counter, by, other, 0);
        if (now.promises.size() == 16) {
            return 1;
        }
        if (owner(owner, 0) >= now.settings[0]) {
            return 2;
        }
        now.promises.add(asked);
        boolean isTooLow = false;
        boolean isTooHigh = false;
        for (int c = 0; c < 4; c++) {
            isTooLow |= low(c) < now.least[c];
            isTooHigh |= high(c) > now.most[c];
        }
        now.promises.remove(now.promises.size() - 1);
        return isTooLow ? 3 : isTooHigh ? 4 : 0;
    }

    private int add(int owner, int counter, int by, int other) {
        now.promises.add(new Promised(owner, counter, by, other, now.time + now.settings[1]));
        now.made++;
        return now.promises.size() - 1;
    }

    private void apply(Promised p) {
        for (int c = 0; c < 4; c++) {
            now.value[c] += p.of(c);
        }
    }

    private void end(int promise, int how) {
        Promised p = now.promises.remove(promise);
        if (how == SETTLED) {
            apply(p);
        }
        now.ended[how][p.owner()]++;
    }

    /** Ends all promises for which each answers 1, by ascending numbers. */
    private int endAll(ToIntFunction<Promised> each, int how) {
        int many = 0;
        for (int p = 0; p < now.promises.size();) {
            if (each.applyAsInt(now.promises.get(p)) == 1) {
                end(p, how);
                many++;
            } else {
                p++;
            }
        }
        return many;
    }

    private void save() {
        saved.addLast(now.copy());
        if (saved.size() > 6) {
            saved.removeFirst();
        }
    }

    private static void index(int number, int size) {
        if (number < 0 || number >= size) {
            throw new IndexOutOfBoundsException();
        }
    }

    private static void range(int value, int least, int most) {
        argument(value >= least && value <= most);
    }

    private static void argument(boolean isRight) {
        if (!isRight) {
            throw new IllegalArgumentException();
        }
    }

    private static void state(boolean isRight) {
        if (!isRight) {
            throw new IllegalStateException();
        }
    }
}
