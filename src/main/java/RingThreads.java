import java.util.Arrays;

/** Nails in a ring that are wound with thread until a face shows; ../shared/DOC.md promises each call. */
public final class RingThreads {
    public static final int NONE = -1;

    private static final int PLACES = 24;
    private static final int PAIRS = PLACES * (PLACES - 1) / 2;
    private static final int QUARTER_BACK = 18;
    private static final int MIDDLE = 60;
    private static final int[] AROUND = {
        60, 58, 52, 42, 30, 16, 0, -16, -30, -42, -52, -58,
        -60, -58, -52, -42, -30, -16, 0, 16, 30, 42, 52, 58
    };

    private static final int SIDE = 12;
    private static final int SQUARES = SIDE * SIDE;
    private static final int SQUARE_WIDTH = 10;
    /** A chord turns back in neither direction, so it enters a new column or a new row with each new square. */
    private static final int LONGEST_PATH = 2 * SIDE - 1;

    private static final int SPOOLS = 3;
    private static final int MOST_SHADE = 9;
    private static final int MOST_THREAD = 9999;
    private static final int MOST_CHORDS = 200;
    private static final int MOST_AT_ONCE = 50;
    private static final int MOST_GREY = 9;
    private static final int OFFSET = 10000;

    private static final int SETTINGS = 3;
    private static final int APART = 0;
    private static final int TIMES = 1;
    private static final int GREY_DARKNESS = 2;
    private static final int[] MOST_SETTING = {6, 9, 9};

    private static final int SAME_NAIL = 1;
    private static final int TOO_NEAR = 2;
    private static final int TOO_OFTEN = 3;
    private static final int TOO_LONG = 4;

    private static final int BUFFER_SIZE = 60;
    private static final int LEAST_CODE = 33;
    private static final int MOST_CODE = 126;
    private static final int SLOTS = 2;
    private static final int MOST_SAVED = 6;

    private static final int COUNTS = 13;
    private static final int DIGEST_CHORDS = 10;
    private static final int EXPONENT_OF_ONE = 1023;
    private static final int FRACTION_BITS = 52;
    private static final long FRACTION_SIZE = 1L << FRACTION_BITS;

    private final Ring ring;
    /** For what would be; it holds nothing from one call to the next. */
    private final Ring trial;
    /** A number by square; it holds nothing from one call to the next. */
    private final int[] scratch = new int[SQUARES];
    private final Text text = new Text();
    private final Ring[] slots = new Ring[SLOTS];
    /** The oldest one first; the rings behind the last saved one are spare and used again. */
    private final Ring[] saved = new Ring[MOST_SAVED];
    private int savedMany;

    public RingThreads() {
        Line[] lines = new Line[PAIRS];
        ring = new Ring(lines);
        trial = new Ring(lines);
    }

    // ---- nails, spools

    public int nails(int many) throws IllegalArgumentException {
        int step = stepOf(many);
        if (step == NONE) {
            throw new IllegalArgumentException("4, 6, 8, 12 or 24 nails");
        }
        save();
        int before = ring.nails;
        ring.takeAllOff();
        ring.nails = many;
        ring.step = step;
        ring.at = 0;
        return before;
    }

    public int spool(int spool, int shade, int length)
            throws IndexOutOfBoundsException, IllegalArgumentException, IllegalStateException {
        needSpool(spool);
        needRange(shade, 1, MOST_SHADE);
        needRange(length, 0, MOST_THREAD);
        if (spool == ring.now || ring.chordsOf(spool) > 0) {
            throw new IllegalStateException("the spool is in use");
        }
        save();
        int before = ring.left[spool];
        ring.shades[spool] = shade;
        ring.left[spool] = length;
        return before;
    }

    public int knot(int spool) throws IndexOutOfBoundsException, IllegalStateException {
        needSpool(spool);
        if (spool == ring.now) {
            throw new IllegalStateException("it is the spool of now");
        }
        save();
        ring.now = spool;
        ring.knots++;
        return ring.knots;
    }

    public int set(int setting, int value) throws IndexOutOfBoundsException, IllegalArgumentException {
        needSetting(setting);
        needRange(value, 1, MOST_SETTING[setting]);
        save();
        int before = ring.settings[setting];
        ring.settings[setting] = value;
        return before;
    }

    // ---- chords

    public int wind(int nail) throws IndexOutOfBoundsException, IllegalStateException {
        needNail(nail);
        if (ring.lying >= MOST_CHORDS) {
            throw new IllegalStateException("200 chords lie");
        }
        save();
        int reason = ring.refusal(nail);
        if (reason == 0) {
            ring.lay(nail);
            ring.woundSoFar++;
        } else {
            ring.refusedSoFar++;
        }
        return reason;
    }

    public int unwind() throws IllegalStateException {
        if (ring.lying == 0) {
            throw new IllegalStateException("no chord lies");
        }
        save();
        ring.takeOff();
        return ring.at;
    }

    public int windBest(int most) throws IllegalArgumentException {
        needRange(most, 1, MOST_AT_ONCE);
        save();
        for (int done = 0; done < most; done++) {
            int nail = ring.bestNail();
            if (nail == NONE || ring.lying >= MOST_CHORDS || ring.gainTo(nail) <= 0) {
                return done;
            }
            ring.lay(nail);
            ring.woundSoFar++;
        }
        return most;
    }

    // ---- the face

    public int want(int x, int y, int grey) throws IndexOutOfBoundsException, IllegalArgumentException {
        needSquare(x, y);
        needRange(grey, 0, MOST_GREY);
        save();
        int square = y * SIDE + x;
        int before = ring.greys[square];
        ring.greys[square] = grey;
        return before;
    }

    public int turnFace(int how) throws IllegalArgumentException {
        needRange(how, 0, 2);
        save();
        System.arraycopy(ring.greys, 0, scratch, 0, SQUARES);
        for (int y = 0; y < SIDE; y++) {
            for (int x = 0; x < SIDE; x++) {
                int grey = scratch[y * SIDE + x];
                if (how == 0) {
                    ring.greys[x * SIDE + SIDE - 1 - y] = grey;
                } else if (how == 1) {
                    ring.greys[y * SIDE + SIDE - 1 - x] = grey;
                } else {
                    ring.greys[y * SIDE + x] = MOST_GREY - grey;
                }
            }
        }
        return ring.misfit();
    }

    // ---- texts, snapshots

    public int append(int code) throws IllegalArgumentException, IllegalStateException {
        needRange(code, LEAST_CODE, MOST_CODE);
        if (text.length >= BUFFER_SIZE) {
            throw new IllegalStateException("the buffer is full");
        }
        text.add((char) code);
        return text.length;
    }

    public int clearBuffer() {
        int before = text.length;
        text.length = 0;
        return before;
    }

    public int firstError() {
        return text.firstWrong();
    }

    public int load() throws IllegalArgumentException {
        if (!text.isFace()) {
            throw new IllegalArgumentException("the buffer tells no face");
        }
        save();
        System.arraycopy(ring.greys, 0, scratch, 0, SQUARES);
        text.tellTo(ring.greys);
        text.length = 0;
        int changed = 0;
        for (int square = 0; square < SQUARES; square++) {
            if (ring.greys[square] != scratch[square]) {
                changed++;
            }
        }
        return changed;
    }

    public int keep(int slot) throws IllegalArgumentException {
        needRange(slot, 0, SLOTS - 1);
        copyTo(slots, slot);
        return ring.lying;
    }

    public int goBack(int slot) throws IllegalArgumentException, IllegalStateException {
        needRange(slot, 0, SLOTS - 1);
        Ring kept = slots[slot];
        if (kept == null) {
            throw new IllegalStateException("no snapshot is in the slot");
        }
        save();
        ring.copyFrom(kept);
        return ring.lying;
    }

    public int undo() throws IllegalStateException {
        Ring latest = savedMany > 0 ? saved[savedMany - 1] : null;
        if (latest == null) {
            throw new IllegalStateException("no state is saved");
        }
        ring.copyFrom(latest);
        savedMany--;
        return savedMany;
    }

    // ---- looks; nothing is changed

    public int nailOf(int nail, int what) throws IndexOutOfBoundsException, IllegalArgumentException {
        needNail(nail);
        needRange(what, 0, 3);
        switch (what) {
            case 0:
                return Line.xOf(nail * ring.step);
            case 1:
                return Line.yOf(nail * ring.step);
            case 2:
                return ring.endsAt(nail);
            default:
                return nail == ring.at ? 1 : 0;
        }
    }

    public int spoolOf(int spool, int what) throws IndexOutOfBoundsException, IllegalArgumentException {
        needSpool(spool);
        needRange(what, 0, 4);
        switch (what) {
            case 0:
                return ring.shades[spool];
            case 1:
                return ring.left[spool];
            case 2:
                return ring.threadLying(spool);
            case 3:
                return ring.chordsOf(spool);
            default:
                return spool == ring.now ? 1 : 0;
        }
    }

    public int chord(int one, int other, int what) throws IndexOutOfBoundsException, IllegalArgumentException {
        needNail(one);
        needNail(other);
        needRange(what, 0, 2);
        if (one == other) {
            return NONE;
        }
        switch (what) {
            case 0:
                return ring.lineBetween(one, other).length;
            case 1:
                return ring.lineBetween(one, other).squares.length;
            default:
                return ring.timesLying(one, other);
        }
    }

    public int wound(int ago, int what) throws IllegalArgumentException {
        if (ago < 0) {
            throw new IllegalArgumentException("out of range");
        }
        needRange(what, 0, 2);
        if (ago >= ring.lying) {
            return NONE;
        }
        int chord = ring.lying - 1 - ago;
        switch (what) {
            case 0:
                return ring.from[chord];
            case 1:
                return ring.to[chord];
            default:
                return ring.spools[chord];
        }
    }

    public int square(int x, int y, int what) throws IndexOutOfBoundsException, IllegalArgumentException {
        needSquare(x, y);
        needRange(what, 0, 3);
        int square = y * SIDE + x;
        switch (what) {
            case 0:
                return ring.greys[square];
            case 1:
                return ring.dark[square];
            case 2:
                return ring.lackOf(square) + OFFSET;
            default:
                return ring.crossings[square];
        }
    }

    public int count(int what) throws IllegalArgumentException {
        needRange(what, 0, COUNTS - 1);
        switch (what) {
            case 0:
                return ring.nails;
            case 1:
                return ring.at;
            case 2:
                return ring.now;
            case 3:
                return ring.lying;
            case 4:
                return ring.woundSoFar;
            case 5:
                return ring.refusedSoFar;
            case 6:
                return ring.knots;
            case 7:
                return ring.misfit();
            case 8:
                return ring.misfitByGains(scratch);
            case 9:
                return ring.squaresOfSign(1);
            case 10:
                return ring.squaresOfSign(-1);
            case 11:
                return ring.threadLying(0) + ring.threadLying(1) + ring.threadLying(2);
            default:
                return savedMany;
        }
    }

    public int setting(int setting) throws IndexOutOfBoundsException {
        needSetting(setting);
        return ring.settings[setting];
    }

    // ---- what would be; nothing is changed

    public int whyNot(int nail) throws IndexOutOfBoundsException {
        needNail(nail);
        return ring.refusal(nail);
    }

    public int gain(int nail) throws IndexOutOfBoundsException {
        needNail(nail);
        return nail == ring.at ? NONE : ring.gainTo(nail) + OFFSET;
    }

    public int best() {
        return ring.bestNail();
    }

    public int bestTwo() {
        trial.copyFrom(ring);
        int found = NONE;
        int most = 0;
        for (int first = 0; first < ring.nails; first++) {
            if (ring.refusal(first) == 0) {
                trial.lay(first);
                int second = trial.nailOfMostGain();
                if (second != NONE) {
                    int both = ring.gainTo(first) + trial.gainTo(second);
                    if (found == NONE || both > most) {
                        found = 100 * first + second;
                        most = both;
                    }
                }
                trial.takeOff();
            }
        }
        return found;
    }

    public int palest() {
        int found = NONE;
        int most = 0;
        for (int square = 0; square < SQUARES; square++) {
            int lack = ring.lackOf(square);
            if (lack > most) {
                most = lack;
                found = 100 * (square / SIDE) + square % SIDE;
            }
        }
        return found;
    }

    public int bestSpool() {
        trial.copyFrom(ring);
        int found = NONE;
        int most = 0;
        for (int spool = 0; spool < SPOOLS; spool++) {
            trial.now = spool;
            int nail = trial.bestNail();
            if (nail != NONE) {
                int gain = trial.gainTo(nail);
                if (found == NONE || gain > most) {
                    found = spool;
                    most = gain;
                }
            }
        }
        return found;
    }

    public double shownShare() {
        return (double) ring.squaresOfSign(0) / SQUARES;
    }

    public long digest() {
        long hash = 3301L;
        for (int what = 0; what < COUNTS; what++) {
            hash = 31L * hash + count(what);
        }
        for (int setting = 0; setting < SETTINGS; setting++) {
            hash = 31L * hash + ring.settings[setting];
        }
        hash = withNails(hash);
        hash = withSpools(hash);
        hash = withChordsLying(hash);
        hash = withSquares(hash);
        hash = withChord(hash, 0, 1);
        hash = withChord(hash, 0, 2);
        hash = 31L * hash + best();
        hash = 31L * hash + bestTwo();
        hash = 31L * hash + palest();
        hash = 31L * hash + bestSpool();
        hash = 31L * hash + bitsOf(shownShare());
        for (int slot = 0; slot < SLOTS; slot++) {
            hash = 31L * hash + (slots[slot] == null ? 0 : 1);
        }
        hash = 31L * hash + text.length;
        for (int i = 0; i < text.length; i++) {
            hash = 31L * hash + text.codes[i];
        }
        return hash;
    }

    // ---- parts of the digest

    private long withNails(long hash) {
        long sum = hash;
        for (int nail = 0; nail < ring.nails; nail++) {
            for (int what = 0; what <= 3; what++) {
                sum = 31L * sum + nailOf(nail, what);
            }
            sum = 31L * sum + whyNot(nail);
            sum = 31L * sum + gain(nail);
        }
        return sum;
    }

    private long withSpools(long hash) {
        long sum = hash;
        for (int spool = 0; spool < SPOOLS; spool++) {
            for (int what = 0; what <= 4; what++) {
                sum = 31L * sum + spoolOf(spool, what);
            }
        }
        return sum;
    }

    private long withChordsLying(long hash) {
        long sum = hash;
        for (int ago = 0; ago < DIGEST_CHORDS; ago++) {
            for (int what = 0; what <= 2; what++) {
                sum = 31L * sum + wound(ago, what);
            }
        }
        return sum;
    }

    private long withSquares(long hash) {
        long sum = hash;
        for (int y = 0; y < SIDE; y++) {
            for (int x = 0; x < SIDE; x++) {
                for (int what = 0; what <= 3; what++) {
                    sum = 31L * sum + square(x, y, what);
                }
            }
        }
        return sum;
    }

    private long withChord(long hash, int one, int other) {
        long sum = hash;
        for (int what = 0; what <= 2; what++) {
            sum = 31L * sum + chord(one, other, what);
        }
        return sum;
    }

    /**
     * Built by hand since the language kept to has no Double.doubleToLongBits; a share is 0, or
     * 1/144 to 1, so each doubling is exact and what is left behind the one fits the fraction.
     */
    private static long bitsOf(double share) {
        if (share <= 0.0) {
            return 0L;
        }
        double scaled = share;
        int exponent = EXPONENT_OF_ONE;
        while (scaled < 1.0 && exponent > 1) {
            scaled = scaled * 2.0;
            exponent--;
        }
        return ((long) exponent << FRACTION_BITS) + (long) ((scaled - 1.0) * (double) FRACTION_SIZE);
    }

    // ---- what several calls need

    /** How many places lie from nail to nail; NONE if there can't be so many nails. */
    private static int stepOf(int many) {
        switch (many) {
            case 4:
                return 6;
            case 6:
                return 4;
            case 8:
                return 3;
            case 12:
                return 2;
            case 24:
                return 1;
            default:
                return NONE;
        }
    }

    private void needNail(int nail) {
        if (nail < 0 || nail >= ring.nails) {
            throw new IndexOutOfBoundsException("no such nail");
        }
    }

    private static void needSpool(int spool) {
        if (spool < 0 || spool >= SPOOLS) {
            throw new IndexOutOfBoundsException("no such spool");
        }
    }

    private static void needSetting(int setting) {
        if (setting < 0 || setting >= SETTINGS) {
            throw new IndexOutOfBoundsException("no such setting");
        }
    }

    private static void needSquare(int x, int y) {
        if (x < 0 || x >= SIDE || y < 0 || y >= SIDE) {
            throw new IndexOutOfBoundsException("no such square");
        }
    }

    private static void needRange(int value, int least, int most) {
        if (value < least || value > most) {
            throw new IllegalArgumentException("out of range");
        }
    }

    private void save() {
        if (savedMany >= MOST_SAVED) {
            Ring oldest = saved[0];
            for (int i = 1; i < MOST_SAVED; i++) {
                saved[i - 1] = saved[i];
            }
            saved[MOST_SAVED - 1] = oldest;
            savedMany = MOST_SAVED - 1;
        }
        copyTo(saved, savedMany);
        savedMany++;
    }

    /** A ring is made at the first use of its place only: nothing that is made is ever given back. */
    private void copyTo(Ring[] row, int index) {
        Ring copy = row[index];
        if (copy == null) {
            copy = new Ring(ring.lines);
            row[index] = copy;
        }
        copy.copyFrom(ring);
    }

    /** The way of a chord between two places. */
    private static final class Line {
        final int length;
        final int[] squares;

        Line(int length, int[] squares) {
            this.length = length;
            this.squares = squares;
        }

        static int xOf(int place) {
            return place < 0 || place >= PLACES ? MIDDLE : MIDDLE + AROUND[place];
        }

        static int yOf(int place) {
            return place < 0 || place >= PLACES ? MIDDLE : MIDDLE + AROUND[(place + QUARTER_BACK) % PLACES];
        }

        /** The same number for both ways of a chord; NONE if there is no such chord. */
        static int pairOf(int one, int other) {
            int lesser = Math.min(one, other);
            int greater = Math.max(one, other);
            if (lesser < 0 || lesser == greater || greater >= PLACES) {
                return NONE;
            }
            return greater * (greater - 1) / 2 + lesser;
        }

        static Line trace(int lesser, int greater) {
            int a = xOf(lesser);
            int b = yOf(lesser);
            int across = xOf(greater) - a;
            int down = yOf(greater) - b;
            int steps = Math.max(Math.abs(across), Math.abs(down));
            int[] path = new int[LONGEST_PATH];
            int many = 0;
            for (int k = 0; k <= steps && steps > 0; k++) {
                int column = Math.min((a + across * k / steps) / SQUARE_WIDTH, SIDE - 1);
                int row = Math.min((b + down * k / steps) / SQUARE_WIDTH, SIDE - 1);
                int square = row * SIDE + column;
                // A square that was left is never entered again, so the one before tells all.
                if ((many == 0 || path[many - 1] != square) && many < LONGEST_PATH) {
                    path[many] = square;
                    many++;
                }
            }
            return new Line(rootOf(across * across + down * down), Arrays.copyOf(path, many));
        }

        /** No chord is longer than the two sides of the whole, 240. */
        private static int rootOf(int number) {
            int root = 0;
            while (root < 240 && (root + 1) * (root + 1) <= number) {
                root++;
            }
            return root;
        }
    }

    /** All that snapshots and saved states hold. */
    private static final class Ring {
        /** By pair of places, for all rings the same; each is traced when it is first asked for. */
        final Line[] lines;
        int nails = 12;
        /** Places from nail to nail. */
        int step = 2;
        int at;
        int now;
        int woundSoFar;
        int refusedSoFar;
        int knots;
        int lying;
        final int[] shades = {1, 2, 3};
        final int[] left = {2000, 2000, 2000};
        final int[] settings = {1, 1, 2};
        // One more than can lie, since the best two are tried on top of 200 too.
        final int[] from = new int[MOST_CHORDS + 1];
        final int[] to = new int[MOST_CHORDS + 1];
        final int[] spools = new int[MOST_CHORDS + 1];
        final int[] greys = new int[SQUARES];
        final int[] dark = new int[SQUARES];
        final int[] crossings = new int[SQUARES];
        /** How often a chord lies, by its pair of places. */
        final int[] times = new int[PAIRS];

        Ring(Line[] lines) {
            this.lines = lines;
        }

        void copyFrom(Ring other) {
            nails = other.nails;
            step = other.step;
            at = other.at;
            now = other.now;
            woundSoFar = other.woundSoFar;
            refusedSoFar = other.refusedSoFar;
            knots = other.knots;
            lying = other.lying;
            System.arraycopy(other.shades, 0, shades, 0, SPOOLS);
            System.arraycopy(other.left, 0, left, 0, SPOOLS);
            System.arraycopy(other.settings, 0, settings, 0, SETTINGS);
            System.arraycopy(other.from, 0, from, 0, lying);
            System.arraycopy(other.to, 0, to, 0, lying);
            System.arraycopy(other.spools, 0, spools, 0, lying);
            System.arraycopy(other.greys, 0, greys, 0, SQUARES);
            System.arraycopy(other.dark, 0, dark, 0, SQUARES);
            System.arraycopy(other.crossings, 0, crossings, 0, SQUARES);
            System.arraycopy(other.times, 0, times, 0, PAIRS);
        }

        Line lineBetween(int one, int other) {
            int pair = Line.pairOf(one * step, other * step);
            if (pair == NONE) {
                return new Line(0, new int[0]);
            }
            Line line = lines[pair];
            if (line == null) {
                line = Line.trace(Math.min(one, other) * step, Math.max(one, other) * step);
                lines[pair] = line;
            }
            return line;
        }

        int timesLying(int one, int other) {
            int pair = Line.pairOf(one * step, other * step);
            return pair == NONE ? 0 : times[pair];
        }

        int refusal(int nail) {
            if (nail == at) {
                return SAME_NAIL;
            }
            int apart = Math.abs(nail - at);
            if (Math.min(apart, nails - apart) < settings[APART]) {
                return TOO_NEAR;
            }
            if (timesLying(at, nail) >= settings[TIMES]) {
                return TOO_OFTEN;
            }
            return left[now] < lineBetween(at, nail).length ? TOO_LONG : 0;
        }

        int lackOf(int square) {
            return greys[square] * settings[GREY_DARKNESS] - dark[square];
        }

        int misfit() {
            int sum = 0;
            for (int square = 0; square < SQUARES; square++) {
                sum += Math.abs(lackOf(square));
            }
            return sum;
        }

        /** How many squares have a lack of this sign: 1 above 0, 0 none, -1 below 0. */
        int squaresOfSign(int sign) {
            int many = 0;
            for (int square = 0; square < SQUARES; square++) {
                int lack = lackOf(square);
                if ((lack > 0 ? 1 : lack < 0 ? -1 : 0) == sign) {
                    many++;
                }
            }
            return many;
        }

        int gainTo(int nail) {
            int sum = 0;
            for (int square : lineBetween(at, nail).squares) {
                sum += relief(lackOf(square), shades[now]);
            }
            return sum;
        }

        private static int relief(int lack, int shade) {
            return Math.abs(lack) - Math.abs(lack - shade);
        }

        /** Told from the bare ring on; the row, a number by square, is written over. */
        int misfitByGains(int[] lacks) {
            int told = 0;
            for (int square = 0; square < SQUARES; square++) {
                lacks[square] = greys[square] * settings[GREY_DARKNESS];
                told += lacks[square];
            }
            for (int chord = 0; chord < lying; chord++) {
                int shade = shades[spools[chord]];
                for (int square : lineBetween(from[chord], to[chord]).squares) {
                    told -= relief(lacks[square], shade);
                    lacks[square] -= shade;
                }
            }
            return told;
        }

        int bestNail() {
            int found = NONE;
            int most = 0;
            int fewest = 0;
            int shortest = 0;
            for (int nail = 0; nail < nails; nail++) {
                if (refusal(nail) == 0) {
                    int gain = gainTo(nail);
                    int often = timesLying(at, nail);
                    int length = lineBetween(at, nail).length;
                    boolean isLess = often < fewest || often == fewest && length < shortest;
                    if (found == NONE || gain > most || gain == most && isLess) {
                        found = nail;
                        most = gain;
                        fewest = often;
                        shortest = length;
                    }
                }
            }
            return found;
        }

        /** The lowest nail of those with the most gain: for the best two, times and lengths don't decide. */
        int nailOfMostGain() {
            int found = NONE;
            int most = 0;
            for (int nail = 0; nail < nails; nail++) {
                if (refusal(nail) == 0) {
                    int gain = gainTo(nail);
                    if (found == NONE || gain > most) {
                        found = nail;
                        most = gain;
                    }
                }
            }
            return found;
        }

        void lay(int nail) {
            if (lying > MOST_CHORDS) {
                return;
            }
            from[lying] = at;
            to[lying] = nail;
            spools[lying] = now;
            putThread(lying, 1);
            lying++;
            at = nail;
        }

        void takeOff() {
            if (lying <= 0) {
                return;
            }
            lying--;
            putThread(lying, -1);
            at = from[lying];
            now = spools[lying];
        }

        /** The spool of now stays, since this is no unwinding. */
        void takeAllOff() {
            int stays = now;
            for (int more = lying; more > 0; more--) {
                takeOff();
            }
            now = stays;
        }

        /** Where the sign is 1 the thread of a chord is laid on, where it is -1 it is taken off. */
        private void putThread(int chord, int sign) {
            int pair = Line.pairOf(from[chord] * step, to[chord] * step);
            if (pair == NONE) {
                return;
            }
            Line line = lineBetween(from[chord], to[chord]);
            int spool = spools[chord];
            times[pair] += sign;
            left[spool] -= sign * line.length;
            for (int square : line.squares) {
                dark[square] += sign * shades[spool];
                crossings[square] += sign;
            }
        }

        int endsAt(int nail) {
            int many = 0;
            for (int chord = 0; chord < lying; chord++) {
                if (from[chord] == nail || to[chord] == nail) {
                    many++;
                }
            }
            return many;
        }

        int chordsOf(int spool) {
            int many = 0;
            for (int chord = 0; chord < lying; chord++) {
                if (spools[chord] == spool) {
                    many++;
                }
            }
            return many;
        }

        int threadLying(int spool) {
            int sum = 0;
            for (int chord = 0; chord < lying; chord++) {
                if (spools[chord] == spool) {
                    sum += lineBetween(from[chord], to[chord]).length;
                }
            }
            return sum;
        }
    }

    /** The buffer, read as rows of greys. */
    private static final class Text {
        // Between these two stand the states behind 1 to 11 greys of a row.
        private static final int AFTER_LETTER = 0;
        private static final int AFTER_ALL_GREYS = SIDE;
        private static final int LETTER_DUE = SIDE + 1;
        private static final int AFTER_STAR = SIDE + 2;
        private static final int AFTER_STAR_GREY = SIDE + 3;
        private static final int WRONG = SIDE + 4;

        final char[] codes = new char[BUFFER_SIZE];
        int length;

        void add(char code) {
            if (length < BUFFER_SIZE) {
                codes[length] = code;
                length++;
            }
        }

        private static boolean isDigit(char code) {
            return code >= '0' && code <= '9';
        }

        private static boolean isLetter(char code) {
            return code >= 'a' && code <= 'l';
        }

        private static boolean endsRow(int state) {
            return state == AFTER_STAR_GREY || state > AFTER_LETTER && state <= AFTER_ALL_GREYS;
        }

        private static int stateBehind(int state, char code) {
            if (state == LETTER_DUE) {
                return isLetter(code) ? AFTER_LETTER : WRONG;
            }
            if (isDigit(code)) {
                if (state == AFTER_STAR) {
                    return AFTER_STAR_GREY;
                }
                return state < AFTER_ALL_GREYS ? state + 1 : WRONG;
            }
            if (code == '*' && state == AFTER_LETTER) {
                return AFTER_STAR;
            }
            return code == ';' && endsRow(state) ? LETTER_DUE : WRONG;
        }

        int firstWrong() {
            int state = LETTER_DUE;
            for (int i = 0; i < length; i++) {
                state = stateBehind(state, codes[i]);
                if (state == WRONG) {
                    return i;
                }
            }
            return length;
        }

        boolean isFace() {
            int state = LETTER_DUE;
            for (int i = 0; i < length; i++) {
                state = stateBehind(state, codes[i]);
            }
            return endsRow(state);
        }

        /** For a buffer that is a face as a text. */
        void tellTo(int[] greys) {
            int start = 0;
            int column = 0;
            boolean isStarred = false;
            for (int i = 0; i < length; i++) {
                char code = codes[i];
                if (isLetter(code)) {
                    start = (code - 'a') * SIDE;
                    column = 0;
                    isStarred = false;
                } else if (code == '*') {
                    isStarred = true;
                } else if (isDigit(code) && isStarred) {
                    for (int x = 0; x < SIDE; x++) {
                        greys[start + x] = code - '0';
                    }
                } else if (isDigit(code) && column < SIDE) {
                    greys[start + column] = code - '0';
                    column++;
                }
            }
        }
    }
}
