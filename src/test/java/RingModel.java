import java.util.ArrayList;
import java.util.Arrays;
import java.util.Comparator;
import java.util.LinkedHashSet;
import java.util.List;
import java.util.Optional;
import java.util.Set;
import java.util.regex.Pattern;
import java.util.stream.Collectors;
import java.util.stream.IntStream;

/**
 * The document told a second time, as plainly as the Java library lets it be: nothing is kept that can be
 * counted anew from the chords that lie. Calls are made by number, so that runs can be drawn.
 */
final class RingModel {
    static final String[] CALLS = {
        "nails", "spool", "knot", "set", "wind", "unwind", "windBest", "want", "turnFace", "append", "clearBuffer",
        "firstError", "load", "keep", "goBack", "undo", "nailOf", "spoolOf", "chord", "wound", "square", "count",
        "setting", "whyNot", "gain", "best", "bestTwo", "palest", "bestSpool", "shownShare", "digest"
    };

    private static final int[] C = {
        60, 58, 52, 42, 30, 16, 0, -16, -30, -42, -52, -58, -60, -58, -52, -42, -30, -16, 0, 16, 30, 42, 52, 58
    };
    private static final String ROW = "[a-l]([0-9]{1,12}|\\*[0-9])";
    private static final Pattern FACE = Pattern.compile("(" + ROW + ";)*" + ROW);
    private static final Pattern BEGINNING = Pattern.compile("(" + ROW + ";)*([a-l]([0-9]{0,12}|\\*[0-9]?))?");

    private record Chord(int from, int to, int spool) {
        boolean isBetween(int one, int other) {
            return from == one && to == other || from == other && to == one;
        }
    }

    private static final class State {
        int nails = 12;
        int at = 0;
        int now = 0;
        int[] shade = {1, 2, 3};
        int[] left = {2000, 2000, 2000};
        int[] setting = {1, 1, 2};
        int[][] grey = new int[12][12];
        List<Chord> chords = new ArrayList<>();
        int wound = 0;
        int refused = 0;
        int knots = 0;

        State copy() {
            State other = new State();
            other.nails = nails;
            other.at = at;
            other.now = now;
            other.shade = shade.clone();
            other.left = left.clone();
            other.setting = setting.clone();
            other.grey = Arrays.stream(grey).map(int[]::clone).toArray(int[][]::new);
            other.chords = new ArrayList<>(chords);
            other.wound = wound;
            other.refused = refused;
            other.knots = knots;
            return other;
        }

        int x(int nail) {
            return 60 + C[nail * 24 / nails];
        }

        int y(int nail) {
            return 60 + C[(nail * 24 / nails + 18) % 24];
        }

        Set<List<Integer>> crossed(int one, int other) {
            int first = Math.min(one, other);
            int last = Math.max(one, other);
            int n = Math.max(Math.abs(x(last) - x(first)), Math.abs(y(last) - y(first)));
            Set<List<Integer>> squares = new LinkedHashSet<>();
            for (int k = 0; k <= n; k++) {
                int px = x(first) + (x(last) - x(first)) * k / n;
                int py = y(first) + (y(last) - y(first)) * k / n;
                squares.add(List.of(px == 120 ? 11 : px / 10, py == 120 ? 11 : py / 10));
            }
            return squares;
        }

        int length(int one, int other) {
            double dx = x(one) - x(other);
            double dy = y(one) - y(other);
            return (int) Math.floor(Math.sqrt(dx * dx + dy * dy));
        }

        long times(int one, int other) {
            return chords.stream().filter(c -> c.isBetween(one, other)).count();
        }

        /** The lacks of all squares, by y and then by x. */
        int[] lacks() {
            int[] lacks = new int[144];
            for (int i = 0; i < 144; i++) {
                lacks[i] = grey[i / 12][i % 12] * setting[2];
            }
            for (Chord chord : chords) {
                for (List<Integer> square : crossed(chord.from, chord.to)) {
                    lacks[square.get(1) * 12 + square.get(0)] -= shade[chord.spool];
                }
            }
            return lacks;
        }

        int misfit() {
            return Arrays.stream(lacks()).map(Math::abs).sum();
        }

        int reason(int nail) {
            int around = Math.floorMod(nail - at, nails);
            if (around == 0) {
                return 1;
            }
            if (around < setting[0] || nails - around < setting[0]) {
                return 2;
            }
            if (times(at, nail) >= setting[1]) {
                return 3;
            }
            return left[now] < length(at, nail) ? 4 : 0;
        }

        List<Integer> free() {
            return IntStream.range(0, nails).filter(n -> reason(n) == 0).boxed().collect(Collectors.toList());
        }

        State with(int nail) {
            State then = copy();
            then.chords.add(new Chord(at, nail, now));
            then.left[now] -= length(at, nail);
            then.at = nail;
            return then;
        }

        int gain(int nail) {
            return misfit() - with(nail).misfit();
        }

        int best() {
            Comparator<Integer> order = Comparator.comparing((Integer n) -> -gain(n));
            order = order.thenComparing(n -> times(at, n)).thenComparing(n -> length(at, n));
            order = order.thenComparing(Comparator.naturalOrder());
            Optional<Integer> best = free().stream().min(order);
            return best.orElse(-1);
        }

        int bestTwo() {
            int found = -1;
            int least = Integer.MAX_VALUE;
            for (int first : free()) {
                State then = with(first);
                for (int second : then.free()) {
                    int misfit = then.with(second).misfit();
                    if (misfit < least) {
                        least = misfit;
                        found = 100 * first + second;
                    }
                }
            }
            return found;
        }

        int bestSpool() {
            int found = -1;
            int most = Integer.MIN_VALUE;
            for (int spool = 0; spool < 3; spool++) {
                State then = copy();
                then.now = spool;
                int nail = then.best();
                if (nail >= 0 && then.gain(nail) > most) {
                    most = then.gain(nail);
                    found = spool;
                }
            }
            return found;
        }

        int lying(int spool) {
            return chords.stream().filter(c -> c.spool == spool).mapToInt(c -> length(c.from, c.to)).sum();
        }

        long ofSpool(int spool) {
            return chords.stream().filter(c -> c.spool == spool).count();
        }

        void takeOff() {
            Chord chord = chords.remove(chords.size() - 1);
            left[chord.spool] += length(chord.from, chord.to);
            at = chord.from;
            now = chord.spool;
        }
    }

    private State s = new State();
    private final State[] slots = new State[2];
    private final List<State> saved = new ArrayList<>();
    private String buffer = "";

    /** The answer of the call (a double as its bits), or the exception that is due, thrown. */
    long call(int call, int a, int b, int c) {
        State before = s.copy();
        String name = CALLS[call];
        long answer = answer(name, a, b, c);
        if (Set.of("nails", "spool", "knot", "set", "wind", "unwind", "windBest", "want", "turnFace", "load", "goBack")
                .contains(name)) {
            saved.add(before);
            if (saved.size() > 6) {
                saved.remove(0);
            }
        }
        return answer;
    }

    private static void outside(boolean is) {
        if (is) {
            throw new IndexOutOfBoundsException();
        }
    }

    private static void argument(boolean is) {
        if (is) {
            throw new IllegalArgumentException();
        }
    }

    private static void state(boolean is) {
        if (is) {
            throw new IllegalStateException();
        }
    }

    private static boolean isOut(int value, int least, int most) {
        return value < least || value > most;
    }

    private boolean noNail(int nail) {
        return isOut(nail, 0, s.nails - 1);
    }

    private long answer(String name, int a, int b, int c) {
        switch (name) {
            case "nails": return nails(a);
            case "spool": return spool(a, b, c);
            case "knot": return knot(a);
            case "set": return set(a, b);
            case "wind": return wind(a);
            case "unwind": return unwind();
            case "windBest": return windBest(a);
            case "want": return want(a, b, c);
            case "turnFace": return turnFace(a);
            case "append": return append(a);
            case "clearBuffer": return clearBuffer();
            case "firstError": return firstError();
            case "load": return load();
            case "keep": return keep(a);
            case "goBack": return goBack(a);
            case "undo": return undo();
            default: return look(name, a, b, c);
        }
    }

    private long look(String name, int a, int b, int c) {
        switch (name) {
            case "nailOf": return nailOf(a, b);
            case "spoolOf": return spoolOf(a, b);
            case "chord": return chord(a, b, c);
            case "wound": return wound(a, b);
            case "square": return square(a, b, c);
            case "count": return count(a);
            case "setting": return setting(a);
            case "whyNot": return whyNot(a);
            case "gain": return gain(a);
            case "best": return s.best();
            case "bestTwo": return s.bestTwo();
            case "palest": return palest();
            case "bestSpool": return s.bestSpool();
            case "shownShare": return Double.doubleToLongBits(share());
            default: return digest();
        }
    }

    private long nails(int many) {
        argument(!List.of(4, 6, 8, 12, 24).contains(many));
        int before = s.nails;
        int now = s.now;
        while (!s.chords.isEmpty()) {
            s.takeOff();
        }
        s.nails = many;
        s.now = now;
        s.at = 0;
        return before;
    }

    private long spool(int spool, int shade, int length) {
        outside(isOut(spool, 0, 2));
        argument(isOut(shade, 1, 9) || isOut(length, 0, 9999));
        state(spool == s.now || s.ofSpool(spool) > 0);
        int before = s.left[spool];
        s.shade[spool] = shade;
        s.left[spool] = length;
        return before;
    }

    private long knot(int spool) {
        outside(isOut(spool, 0, 2));
        state(spool == s.now);
        s.now = spool;
        return ++s.knots;
    }

    private long set(int setting, int value) {
        outside(isOut(setting, 0, 2));
        argument(isOut(value, 1, setting == 0 ? 6 : 9));
        int before = s.setting[setting];
        s.setting[setting] = value;
        return before;
    }

    private long wind(int nail) {
        outside(noNail(nail));
        state(s.chords.size() == 200);
        int reason = s.reason(nail);
        if (reason == 0) {
            s = s.with(nail);
            s.wound++;
        } else {
            s.refused++;
        }
        return reason;
    }

    private long unwind() {
        state(s.chords.isEmpty());
        s.takeOff();
        return s.at;
    }

    private long windBest(int most) {
        argument(isOut(most, 1, 50));
        int done = 0;
        int nail = s.best();
        while (done < most && s.chords.size() < 200 && nail >= 0 && s.gain(nail) > 0) {
            s = s.with(nail);
            s.wound++;
            done++;
            nail = s.best();
        }
        return done;
    }

    private long want(int x, int y, int grey) {
        outside(isOut(x, 0, 11) || isOut(y, 0, 11));
        argument(isOut(grey, 0, 9));
        int before = s.grey[y][x];
        s.grey[y][x] = grey;
        return before;
    }

    private long turnFace(int how) {
        argument(isOut(how, 0, 2));
        int[][] turned = new int[12][12];
        for (int y = 0; y < 12; y++) {
            for (int x = 0; x < 12; x++) {
                switch (how) {
                    case 0: turned[x][11 - y] = s.grey[y][x]; break;
                    case 1: turned[y][11 - x] = s.grey[y][x]; break;
                    default: turned[y][x] = 9 - s.grey[y][x];
                }
            }
        }
        s.grey = turned;
        return s.misfit();
    }

    private long append(int code) {
        argument(isOut(code, 33, 126));
        state(buffer.length() == 60);
        buffer += (char) code;
        return buffer.length();
    }

    private long clearBuffer() {
        int before = buffer.length();
        buffer = "";
        return before;
    }

    private long firstError() {
        int i = 0;
        while (i < buffer.length() && BEGINNING.matcher(buffer.substring(0, i + 1)).matches()) {
            i++;
        }
        return i;
    }

    private long load() {
        argument(!FACE.matcher(buffer).matches());
        int[][] before = s.copy().grey;
        for (String row : buffer.split(";")) {
            int[] greys = s.grey[row.charAt(0) - 'a'];
            if (row.charAt(1) == '*') {
                Arrays.fill(greys, row.charAt(2) - '0');
            } else {
                for (int x = 0; x < row.length() - 1; x++) {
                    greys[x] = row.charAt(x + 1) - '0';
                }
            }
        }
        buffer = "";
        return IntStream.range(0, 144).filter(i -> before[i / 12][i % 12] != s.grey[i / 12][i % 12]).count();
    }

    private long keep(int slot) {
        argument(isOut(slot, 0, 1));
        slots[slot] = s.copy();
        return s.chords.size();
    }

    private long goBack(int slot) {
        argument(isOut(slot, 0, 1));
        state(slots[slot] == null);
        s = slots[slot].copy();
        return s.chords.size();
    }

    private long undo() {
        state(saved.isEmpty());
        s = saved.remove(saved.size() - 1);
        return saved.size();
    }

    private long nailOf(int nail, int what) {
        outside(noNail(nail));
        argument(isOut(what, 0, 3));
        switch (what) {
            case 0: return s.x(nail);
            case 1: return s.y(nail);
            case 2: return s.chords.stream().filter(c -> c.from == nail || c.to == nail).count();
            default: return s.at == nail ? 1 : 0;
        }
    }

    private long spoolOf(int spool, int what) {
        outside(isOut(spool, 0, 2));
        argument(isOut(what, 0, 4));
        switch (what) {
            case 0: return s.shade[spool];
            case 1: return s.left[spool];
            case 2: return s.lying(spool);
            case 3: return s.ofSpool(spool);
            default: return s.now == spool ? 1 : 0;
        }
    }

    private long chord(int one, int other, int what) {
        outside(noNail(one) || noNail(other));
        argument(isOut(what, 0, 2));
        if (one == other) {
            return -1;
        }
        switch (what) {
            case 0: return s.length(one, other);
            case 1: return s.crossed(one, other).size();
            default: return s.times(one, other);
        }
    }

    private long wound(int ago, int what) {
        argument(ago < 0 || isOut(what, 0, 2));
        if (ago >= s.chords.size()) {
            return -1;
        }
        Chord chord = s.chords.get(s.chords.size() - 1 - ago);
        return what == 0 ? chord.from : what == 1 ? chord.to : chord.spool;
    }

    private long square(int x, int y, int what) {
        outside(isOut(x, 0, 11) || isOut(y, 0, 11));
        argument(isOut(what, 0, 3));
        int lack = s.lacks()[y * 12 + x];
        switch (what) {
            case 0: return s.grey[y][x];
            case 1: return s.grey[y][x] * s.setting[2] - lack;
            case 2: return lack + 10000;
            default: return s.chords.stream().filter(c -> s.crossed(c.from, c.to).contains(List.of(x, y))).count();
        }
    }

    private long count(int what) {
        argument(isOut(what, 0, 12));
        switch (what) {
            case 0: return s.nails;
            case 1: return s.at;
            case 2: return s.now;
            case 3: return s.chords.size();
            case 4: return s.wound;
            case 5: return s.refused;
            case 6: return s.knots;
            case 7: return s.misfit();
            case 8: return misfitByGains();
            case 9: return Arrays.stream(s.lacks()).filter(lack -> lack > 0).count();
            case 10: return Arrays.stream(s.lacks()).filter(lack -> lack < 0).count();
            case 11: return s.lying(0) + s.lying(1) + s.lying(2);
            default: return saved.size();
        }
    }

    private long misfitByGains() {
        State bare = s.copy();
        bare.chords.clear();
        int told = bare.misfit();
        for (Chord chord : s.chords) {
            int ahead = bare.misfit();
            bare.chords.add(chord);
            told -= ahead - bare.misfit();
        }
        return told;
    }

    private long setting(int setting) {
        outside(isOut(setting, 0, 2));
        return s.setting[setting];
    }

    private long whyNot(int nail) {
        outside(noNail(nail));
        return s.reason(nail);
    }

    private long gain(int nail) {
        outside(noNail(nail));
        return nail == s.at ? -1 : s.gain(nail) + 10000;
    }

    private long palest() {
        int[] lacks = s.lacks();
        int most = Arrays.stream(lacks).max().orElse(0);
        int first = IntStream.range(0, 144).filter(i -> lacks[i] == most).findFirst().orElse(0);
        return most <= 0 ? -1 : 100 * (first / 12) + first % 12;
    }

    private double share() {
        return Arrays.stream(s.lacks()).filter(lack -> lack == 0).count() / 144.0;
    }

    private long digest() {
        List<Long> values = new ArrayList<>();
        IntStream.rangeClosed(0, 12).forEach(what -> values.add(count(what)));
        IntStream.range(0, 3).forEach(setting -> values.add(setting(setting)));
        for (int nail = 0; nail < s.nails; nail++) {
            int n = nail;
            IntStream.rangeClosed(0, 3).forEach(what -> values.add(nailOf(n, what)));
            values.add(whyNot(nail));
            values.add(gain(nail));
        }
        IntStream.range(0, 15).forEach(i -> values.add(spoolOf(i / 5, i % 5)));
        IntStream.range(0, 30).forEach(i -> values.add(wound(i / 3, i % 3)));
        addSquares(values);
        IntStream.range(0, 6).forEach(i -> values.add(chord(0, 1 + i / 3, i % 3)));
        values.addAll(List.of((long) s.best(), (long) s.bestTwo(), palest(), (long) s.bestSpool()));
        values.add(Double.doubleToLongBits(share()));
        values.add(slots[0] == null ? 0L : 1L);
        values.add(slots[1] == null ? 0L : 1L);
        values.add((long) buffer.length());
        buffer.chars().forEach(code -> values.add((long) code));
        return values.stream().reduce(3301L, (hash, value) -> 31 * hash + value);
    }

    private void addSquares(List<Long> values) {
        int[] lacks = s.lacks();
        int[] crossings = new int[144];
        for (Chord chord : s.chords) {
            s.crossed(chord.from, chord.to).forEach(square -> crossings[square.get(1) * 12 + square.get(0)]++);
        }
        for (int i = 0; i < 144; i++) {
            int grey = s.grey[i / 12][i % 12];
            values.addAll(List.of((long) grey, (long) grey * s.setting[2] - lacks[i], lacks[i] + 10000L, (long) crossings[i]));
        }
    }
}
