import java.util.ArrayList;
import java.util.List;

/** The bounds of nails, points, squares and chords: "The ring", promises 1, 2, 18 and 20. */
final class RingBounds {
    private static final int[] EACH_MANY = {4, 6, 8, 12, 24};

    private final Sentences doc;

    private RingBounds(Sentences doc) {
        this.doc = doc;
    }

    static void run(Sentences doc) {
        RingBounds bounds = new RingBounds(doc);
        doc.run(
            bounds::calls512, bounds::places, bounds::nailsAtPlaces, bounds::squaresOfPoints, bounds::sameChordBack,
            bounds::crossedSquares, bounds::lengths, bounds::newObject, bounds::nailsTaken, bounds::nailsRefused,
            bounds::nailsChange, bounds::nailOf, bounds::chord);
    }

    private void calls512() {
        doc.named("What it is", "An object is used for at most 512 calls after it has been made");
        RingThreads x = new RingThreads();
        for (int call = 1; call <= 511; call++) {
            x.wind(0);
        }
        Check.equal("the 512th call, count(5)", 511, x.count(5));
        RingThreads y = new RingThreads();
        for (int call = 1; call <= 511; call++) {
            y.keep(call % 2);
        }
        Check.equal("the 512th call, digest()", Twins.made(z -> {
            z.keep(0);
            z.keep(1);
        }).digest(), y.digest());
    }

    private void places() {
        doc.named("The ring", "The ring has 24 places, numbered from 0");
        RingThreads x = Twins.made(y -> y.nails(24));
        Check.equal("x of the first place", 120, x.nailOf(0, 0));
        Check.equal("y of the first place", 60, x.nailOf(0, 1));
        Check.equal("x of the last place", 118, x.nailOf(23, 0));
        Check.equal("y of the last place", 44, x.nailOf(23, 1));
        doc.named("The ring", "60 and c(k and 18, modulo 24)");
        Check.equal("y of the place 5, the last ahead of the turn", 118, x.nailOf(5, 1));
        Check.equal("y of the place 6, the first behind the turn", 120, x.nailOf(6, 1));
        Check.equal("y of the place 7", 118, x.nailOf(7, 1));
        doc.named("The ring", "c(0) to c(23) are 60, 58, 52, 42, 30, 16, 0, -16, -30, -42, -52, -58, -60");
        int[] c = {
            60, 58, 52, 42, 30, 16, 0, -16, -30, -42, -52, -58, -60, -58, -52, -42, -30, -16, 0, 16, 30, 42, 52, 58
        };
        for (int k = 0; k < 24; k++) {
            Check.equal("x of the place " + k, 60 + c[k], x.nailOf(k, 0));
            Check.equal("y of the place " + k, 60 + c[(k + 18) % 24], x.nailOf(k, 1));
        }
    }

    private void nailsAtPlaces() {
        doc.named("The ring",
            "There are 4, 6, 8, 12 or 24 nails, at first 12, numbered from 0: the nail j is at the place j * 24");
        Check.equal("nails at first", 12, new RingThreads().count(0));
        RingThreads places = Twins.made(y -> y.nails(24));
        for (int many : EACH_MANY) {
            RingThreads x = Twins.made(y -> y.nails(many));
            for (int nail : new int[] {0, 1, many - 1}) {
                int place = nail * 24 / many;
                Check.equal("x of " + nail + " of " + many, places.nailOf(place, 0), x.nailOf(nail, 0));
                Check.equal("y of " + nail + " of " + many, places.nailOf(place, 1), x.nailOf(nail, 1));
            }
        }
    }

    /** The squares that the chord crosses, by its thread: by y, then by x. */
    private static List<String> crossed(int one, int other) {
        RingThreads x = Twins.made(y -> y.nails(24));
        if (one != 0) {
            x.wind(one);
        }
        int[] ahead = crossings(x);
        Check.equal("wind(" + other + ")", 0, x.wind(other));
        int[] behind = crossings(x);
        List<String> squares = new ArrayList<>();
        for (int i = 0; i < 144; i++) {
            if (behind[i] != ahead[i]) {
                squares.add(i % 12 + "," + i / 12);
            }
        }
        return squares;
    }

    private static int[] crossings(RingThreads x) {
        int[] many = new int[144];
        for (int i = 0; i < 144; i++) {
            many[i] = x.square(i % 12, i / 12, 3);
        }
        return many;
    }

    private static void crosses(int lesser, int greater, String way) {
        List<String> due = new ArrayList<>(List.of(way.split(" ")));
        due.sort((a, b) -> place(a) - place(b));
        if (greater != 0) {
            Check.equal("squares from " + lesser + " to " + greater, due, crossed(lesser, greater));
        }
        if (lesser != 0) {
            Check.equal("squares from " + greater + " to " + lesser, due, crossed(greater, lesser));
        }
        RingThreads x = Twins.made(y -> y.nails(24));
        Check.equal("chord(" + lesser + ", " + greater + ", 1)", due.size(), x.chord(lesser, greater, 1));
        Check.equal("chord(" + greater + ", " + lesser + ", 1)", due.size(), x.chord(greater, lesser, 1));
    }

    private static int place(String square) {
        String[] parts = square.split(",");
        return Integer.parseInt(parts[1]) * 12 + Integer.parseInt(parts[0]);
    }

    private void squaresOfPoints() {
        doc.named("The ring", "the square (x, y) has the points whose coordinates divided by 10 are x and y");
        // From (120, 60) to (118, 44): 60 is the first that counts to 6, 50 to 5, and 49 the last that counts to 4.
        crosses(0, 23, "11,6 11,5 11,4");
        doc.named("The ring", "(a coordinate of 120 counts to 11)");
        Check.equal("the x of 120", List.of("11,6", "11,7"), crossed(0, 1));
        Check.equal("the y of 120", List.of("4,11", "5,11", "6,11"), crossed(6, 7));
        doc.named("Terms", "divisions are rounded down");
        Check.equal("8 counts to 0, 18 to 1, 90 to 9 and 102 to 10", List.of("0,9", "1,9", "1,10"), crossed(9, 10));
        Check.equal("2 and 0 count to 0, 60 to 6 and 76 to 7", List.of("0,6", "0,7"), crossed(11, 12));
        doc.named("The ring", "There are 12 by 12 squares");
        RingThreads x = new RingThreads();
        Check.equal("want of the first square", 0, x.want(0, 0, 1));
        Check.equal("want of the last square", 0, x.want(11, 11, 1));
        Check.equal("squares that lack", 2, x.count(9));
        doc.named("The ring", "Squares are ordered by y, then by x.");
        RingThreads y = Twins.made(z -> {
            z.want(0, 1, 1);
            z.want(11, 0, 1);
        });
        Check.equal("the last of the first row is ahead of the first of the next one", 11, y.palest());
    }

    private void sameChordBack() {
        doc.named("The ring", "A chord leads from a nail to another one; the same chord leads back.");
        RingThreads x = new RingThreads();
        x.wind(11);
        Check.equal("wind back from the last nail", 3, x.wind(0));
        Check.equal("chord(0, 11, 2)", 1, x.chord(0, 11, 2));
        Check.equal("chord(11, 0, 2)", 1, x.chord(11, 0, 2));
    }

    private void crossedSquares() {
        doc.named("The ring", "that of the lesser nail first");
        crosses(0, 4, "11,6 11,7 10,8 10,9 9,9 9,10 9,11");
        crosses(0, 8, "11,6 10,6 10,7 9,7 8,7 8,8 7,8 6,8 6,9 5,9 5,10 4,10 3,10 3,11");
        doc.named("The ring", "n as the greater of |c - a| and |d - b|");
        crosses(0, 12, "11,6 10,6 9,6 8,6 7,6 6,6 5,6 4,6 3,6 2,6 1,6 0,6");
        crosses(6, 18, "6,11 6,10 6,9 6,8 6,7 6,6 6,5 6,4 6,3 6,2 6,1 6,0");
        crosses(3, 15, "10,10 9,9 8,8 7,7 6,6 5,5 4,4 3,3 2,2 1,1");
        doc.named("The ring", "for k from 0 to n");
        // (11, 6) is crossed by the point of k = 0 alone, (11, 9) by that of k = n alone.
        crosses(0, 18, "11,6 11,5 10,4 9,3 8,2 7,1 6,0");
        crosses(0, 2, "11,6 11,7 11,8 11,9");
        doc.named("The ring", "where these divisions are rounded towards 0");
        // Rounded down the first one would miss (10, 10), rounded up the second one would have it.
        crosses(1, 4, "11,7 11,8 10,8 10,9 10,10 9,10 9,11");
        crosses(1, 6, "11,7 11,8 10,8 9,9 8,9 8,10 7,10 7,11 6,11");
    }

    private void lengths() {
        doc.named("The ring", "Its length is the greatest integer whose square is at most");
        RingThreads x = Twins.made(y -> y.nails(24));
        Check.equal("the root of 14400, 120 times 120", 120, x.chord(0, 12, 0));
        Check.equal("the root of 1024, 32 times 32", 32, x.chord(1, 23, 0));
        Check.equal("the root of 10816, 104 times 104", 104, x.chord(2, 10, 0));
        Check.equal("the root of 10804, 12 less", 103, x.chord(0, 8, 0));
        Check.equal("the root of 13444, 12 less than 116 times 116", 115, x.chord(0, 10, 0));
        Check.equal("the root of 260, 4 more than 16 times 16", 16, x.chord(0, 1, 0));
    }

    private void newObject() {
        doc.promise(1, "Creates a ring of 12 nails");
        RingThreads x = new RingThreads();
        Check.equal("count(0)", 12, x.count(0));
        Check.equal("nailOf(11, 3)", 0, x.nailOf(11, 3));
        Twins.outside("nailOf(12, 3)", Rings::fresh, y -> y.nailOf(12, 3));
        doc.promise(1, "without chords");
        Check.equal("count(3)", 0, x.count(3));
        Check.equal("wound(0, 0)", RingThreads.NONE, x.wound(0, 0));
        Twins.state("unwind()", Rings::fresh, y -> y.unwind());
        doc.promise(1, "with empty slots");
        Twins.state("goBack(0)", Rings::fresh, y -> y.goBack(0));
        Twins.state("goBack(1)", Rings::fresh, y -> y.goBack(1));
        doc.promise(1, "and an empty buffer");
        Check.equal("firstError()", 0, x.firstError());
        Check.equal("clearBuffer()", 0, x.clearBuffer());
        doc.promise(1, "Creates a ring of 12 nails without chords, with empty slots and an empty buffer.");
        Check.equal("count(12), no state is saved", 0, x.count(12));
        Twins.state("undo()", Rings::fresh, y -> y.undo());
        Check.equal("another object knows nothing of the first one", 12, new RingThreads().nails(4));
    }

    private void nailsTaken() {
        doc.promise(2, "- `many`: 4, 6, 8, 12 or 24");
        for (int many : EACH_MANY) {
            RingThreads x = new RingThreads();
            Check.equal("nails(" + many + ")", 12, x.nails(many));
            Check.equal("count(0)", many, x.count(0));
            Check.equal("gain of the last nail is a number", true, x.gain(many - 1) != RingThreads.NONE);
            Twins.outside("gain(" + many + ")", y -> y.nails(many), y -> y.gain(many));
        }
        doc.promise(2, "Returns how many there were.");
        RingThreads x = new RingThreads();
        Check.equal("nails(24)", 12, x.nails(24));
        Check.equal("nails(24) again", 24, x.nails(24));
        Check.equal("nails(4)", 24, x.nails(4));
        Check.equal("nails(6)", 4, x.nails(6));
    }

    private void nailsRefused() {
        doc.promise(2, "Throws `IllegalArgumentException` if many is none of these");
        int[] none = {
            3, 5, 7, 9, 10, 11, 13, 16, 18, 23, 25, 48, 2, 1, 0, -1, -4, -12, Integer.MIN_VALUE, Integer.MAX_VALUE
        };
        for (int many : none) {
            Twins.argument("nails(" + many + ")", Rings::busy, x -> x.nails(many));
        }
    }

    private void nailsChange() {
        doc.promise(2, "all chords are taken off (their threads are back on the spools)");
        RingThreads x = Twins.made(Rings.around(200));
        Check.equal("thread that lies", 9999 - x.spoolOf(1, 1), x.count(11));
        x.nails(24);
        Check.equal("chords of 200", 0, x.count(3));
        Check.equal("thread of the spool, all of it again", 9999, x.spoolOf(1, 1));
        Check.equal("thread that lies", 0, x.count(11));
        Check.equal("the chord lies no more", 0, x.chord(0, 1, 2));
        Check.equal("squares are bare", Double.valueOf(1.0), Double.valueOf(x.shownShare()));
        RingThreads y = Twins.made(Rings.thread(5, 120).andThen(z -> z.wind(6)));
        Check.equal("an empty spool", 0, y.spoolOf(1, 1));
        y.nails(12);
        Check.equal("as many nails as there were: the empty spool is full again", 120, y.spoolOf(1, 1));
        doc.promise(2, "and the thread is at the nail 0; the spool of now stays");
        Check.equal("the nail of now", 0, y.count(1));
        Check.equal("the spool of now", 1, y.count(2));
        RingThreads z = Twins.made(w -> {
            w.wind(11);
            w.knot(2);
            w.wind(5);
            w.knot(1);
            w.nails(8);
        });
        Check.equal("the nail of now, of one that is no more", 0, z.count(1));
        Check.equal("the spool of now, not that of a chord", 1, z.count(2));
        Check.equal("knots so far stay", 2, z.count(6));
        othersStay();
        doc.promise(2, "Undoable.");
        Twins.undoable("nails(8)", Rings::busy, w -> w.nails(8));
        Twins.undoable("nails(24), as many as there were", Rings::busy, w -> w.nails(24));
        Twins.undoable("nails(12), without a chord", Rings::fresh, w -> w.nails(12));
    }

    private void othersStay() {
        doc.promise(2, "Takes another number of nails: all chords are taken off");
        RingThreads x = Twins.made(y -> {
            y.set(0, 2);
            y.set(1, 3);
            y.set(2, 7);
            y.spool(1, 8, 777);
            y.knot(2);
            y.want(11, 11, 9);
            y.wind(6);
            y.wind(6);
            Check.type(y, "a1");
        });
        for (int many : new int[] {24, 4, 6, 8, 12}) {
            x.nails(many);
            int[] due = {many, 0, 2, 0, 1, 1, 1, 63, 63, 1, 0, 0, 6};
            for (int what = 0; what < due.length; what++) {
                Check.equal("count(" + what + ") behind nails(" + many + ")", due[what], x.count(what));
            }
            Check.equal("setting(0)", 2, x.setting(0));
            Check.equal("setting(1)", 3, x.setting(1));
            Check.equal("setting(2)", 7, x.setting(2));
            Check.equal("shade of 1", 8, x.spoolOf(1, 0));
            Check.equal("thread of 1", 777, x.spoolOf(1, 1));
            Check.equal("the buffer", 2, x.firstError());
        }
    }

    private void nailOf() {
        doc.promise(18, "- `nail`: a nail");
        for (int many : EACH_MANY) {
            RingThreads x = Twins.made(y -> y.nails(many));
            Check.equal("nailOf(0, 3)", 1, x.nailOf(0, 3));
            Check.equal("nailOf(the last, 3)", 0, x.nailOf(many - 1, 3));
        }
        doc.promise(18,
            "- `what`: 0: the x, 1: the y of its point; 2: how often a chord that lies begins or ends at it; 3: 1 "
            + "if the thread");
        RingThreads x = Twins.made(Rings.around(24));
        int[][] due = {{120, 60, 2, 1}, {118, 76, 2, 0}, {118, 44, 2, 0}};
        for (int what = 0; what <= 3; what++) {
            Check.equal("nailOf(0, " + what + ")", due[0][what], x.nailOf(0, what));
            Check.equal("nailOf(1, " + what + ")", due[1][what], x.nailOf(1, what));
            Check.equal("nailOf(23, " + what + ")", due[2][what], x.nailOf(23, what));
        }
        x.unwind();
        Check.equal("ends at 0 behind unwind", 1, x.nailOf(0, 2));
        Check.equal("ends at 23 behind unwind", 1, x.nailOf(23, 2));
        doc.promise(18, "Returns a property of a nail.");
        Check.equal("ends at 0 without a chord", 0, new RingThreads().nailOf(0, 2));
        doc.promise(18, "Returns the property.");
        Check.equal("ends at 8 of 200 chords", 17, Twins.made(Rings.around(200)).nailOf(8, 2));
        doc.promise(18, "Throws `IndexOutOfBoundsException` if there is no such nail");
        for (int many : EACH_MANY) {
            Twins.outside("nailOf(" + many + ", 0)", y -> y.nails(many), y -> y.nailOf(many, 0));
        }
        Twins.outside("nailOf(-1, 0)", Rings::busy, y -> y.nailOf(-1, 0));
        Twins.outside("nailOf(the least, 0)", Rings::busy, y -> y.nailOf(Integer.MIN_VALUE, 0));
        Twins.outside("nailOf(the greatest, 0)", Rings::busy, y -> y.nailOf(Integer.MAX_VALUE, 0));
        Twins.outside("nailOf(24, 4), ahead of the other exception", Rings::busy, y -> y.nailOf(24, 4));
        doc.promise(18, "Throws `IllegalArgumentException` if what is not 0 to 3");
        Twins.argument("nailOf(23, 4)", Rings::busy, y -> y.nailOf(23, 4));
        Twins.argument("nailOf(0, -1)", Rings::busy, y -> y.nailOf(0, -1));
    }

    private void chord() {
        doc.promise(20, "- `one`: a nail");
        RingThreads x = Twins.made(Rings::busy);
        Check.equal("chord(23, 0, 0)", 16, x.chord(23, 0, 0));
        doc.promise(20, "- `other`: a nail");
        Check.equal("chord(0, 23, 0)", 16, x.chord(0, 23, 0));
        doc.promise(20, "Returns a property of the chord between two nails.");
        Check.equal("chord(11, 12, 0)", 16, x.chord(11, 12, 0));
        doc.promise(20, "- `what`: 0: its length; 1: how many squares it crosses; 2: how often it lies");
        RingThreads y = Twins.made(Rings.around(194));
        Check.equal("chord(0, 1, 0)", 16, y.chord(0, 1, 0));
        Check.equal("chord(0, 1, 1)", 2, y.chord(0, 1, 1));
        Check.equal("chord(0, 1, 2), as often as it can", 9, y.chord(0, 1, 2));
        Check.equal("chord(1, 2, 2), as often as it can", 9, y.chord(1, 2, 2));
        Check.equal("chord(2, 3, 2)", 8, y.chord(2, 3, 2));
        Check.equal("chord(0, 2, 2), that never lay", 0, y.chord(0, 2, 2));
        doc.promise(20, "NONE if both are the same");
        for (int what = 0; what <= 2; what++) {
            Check.equal("chord(0, 0, " + what + ")", RingThreads.NONE, y.chord(0, 0, what));
            Check.equal("chord(23, 23, " + what + ")", RingThreads.NONE, y.chord(23, 23, what));
        }
        doc.promise(20, "Returns the property.");
        Check.equal("chord(22, 23, 2)", 8, y.chord(22, 23, 2));
        doc.promise(20, "Throws `IndexOutOfBoundsException` if there is no such nail");
        for (int many : EACH_MANY) {
            Twins.outside("chord(" + many + ", 0, 0)", z -> z.nails(many), z -> z.chord(many, 0, 0));
            Twins.outside("chord(0, " + many + ", 0)", z -> z.nails(many), z -> z.chord(0, many, 0));
        }
        Twins.outside("chord(-1, 0, 0)", Rings::busy, z -> z.chord(-1, 0, 0));
        Twins.outside("chord(0, -1, 0)", Rings::busy, z -> z.chord(0, -1, 0));
        Twins.outside("chord(-1, -1, 0), both the same", Rings::busy, z -> z.chord(-1, -1, 0));
        Twins.outside("chord(24, 24, 0), both the same", Rings::busy, z -> z.chord(24, 24, 0));
        Twins.outside("chord(the least, the greatest, 0)", Rings::busy,
            z -> z.chord(Integer.MIN_VALUE, Integer.MAX_VALUE, 0));
        Twins.outside("chord(0, 24, 3), ahead of the other exception", Rings::busy, z -> z.chord(0, 24, 3));
        doc.promise(20, "Throws `IllegalArgumentException` if what is not 0 to 2");
        Twins.argument("chord(0, 1, 3)", Rings::busy, z -> z.chord(0, 1, 3));
        Twins.argument("chord(0, 1, -1)", Rings::busy, z -> z.chord(0, 1, -1));
        Twins.argument("chord(5, 5, 3), both the same", Rings::busy, z -> z.chord(5, 5, 3));
        Twins.argument("chord(5, 5, -1), both the same", Rings::busy, z -> z.chord(5, 5, -1));
    }
}
