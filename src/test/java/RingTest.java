import java.util.List;

/** Promises 1, 2, 18 and 20: a new object, nails and chords. */
final class RingTest {
    private RingTest() {
    }

    public static void main(String[] args) {
        newObject();
        nails();
        nailsTakeChordsOff();
        points();
        propertiesOfNails();
        wrongNails();
        chords();
        crossedSquares();
        wrongChords();
        Check.end();
    }

    private static void newObject() {
        RingThreads x = new RingThreads();
        int[] due = {12, 0, 0, 0, 0, 0, 0, 0, 0, 0, 0, 0, 0};
        for (int what = 0; what < due.length; what++) {
            Check.equal("new: count(" + what + ")", due[what], x.count(what));
        }
        int[] settings = {1, 1, 2};
        for (int i = 0; i < 3; i++) {
            Check.equal("new: setting(" + i + ")", settings[i], x.setting(i));
            Check.equal("new: shade of " + i, i + 1, x.spoolOf(i, 0));
            Check.equal("new: length of " + i, 2000, x.spoolOf(i, 1));
        }
        Check.equal("new: length of the buffer", 0, x.clearBuffer());
        Check.state("new: goBack(0)", x, () -> x.goBack(0));
        Check.state("new: goBack(1)", x, () -> x.goBack(1));
        Check.state("new: undo()", x, () -> x.undo());
        Check.equal("NONE", -1, RingThreads.NONE);
    }

    private static void nails() {
        RingThreads x = new RingThreads();
        int before = 12;
        for (int many : new int[] {4, 6, 8, 12, 24, 24}) {
            Check.equal("nails(" + many + ")", before, x.nails(many));
            Check.equal("nails then", many, x.count(0));
            before = many;
        }
        for (int many : new int[] {0, 1, 3, 5, 7, 10, 16, 25, 48, -4, -24, Integer.MAX_VALUE, Integer.MIN_VALUE}) {
            Check.argument("nails(" + many + ")", x, () -> x.nails(many));
        }
    }

    private static void nailsTakeChordsOff() {
        RingThreads x = new RingThreads();
        x.wind(6);
        x.knot(1);
        x.wind(3);
        Check.equal("thread of 0 ahead", 1880, x.spoolOf(0, 1));
        Check.equal("nails(12)", 12, x.nails(12));
        Check.equal("chords", 0, x.count(3));
        Check.equal("nail of now", 0, x.count(1));
        Check.equal("spool of now stays", 1, x.count(2));
        Check.equal("wound so far", 2, x.count(4));
        Check.equal("knots so far", 1, x.count(6));
        Check.equal("misfit", 0, x.count(7));
        Check.equal("thread of 0 is back", 2000, x.spoolOf(0, 1));
        Check.equal("thread of 1 is back", 2000, x.spoolOf(1, 1));
        Check.equal("the chord lies no more", 0, x.chord(0, 6, 2));
        Check.equal("no square is crossed", 0, x.square(5, 6, 3));
        x.undo();
        Check.equal("chords behind undo", 2, x.count(3));
        Check.equal("nail behind undo", 3, x.count(1));
        Check.equal("dark behind undo", 1, x.square(1, 6, 1));
    }

    private static void points() {
        RingThreads x = new RingThreads();
        x.nails(24);
        int[] xs = {120, 118, 112, 102, 90, 76, 60, 44, 30, 18, 8, 2, 0, 2, 8, 18, 30, 44, 60, 76, 90, 102, 112, 118};
        int[] ys = {60, 76, 90, 102, 112, 118, 120, 118, 112, 102, 90, 76, 60, 44, 30, 18, 8, 2, 0, 2, 8, 18, 30, 44};
        for (int nails : new int[] {24, 12, 8, 6, 4}) {
            x.nails(nails);
            for (int nail = 0; nail < nails; nail++) {
                Check.equal("x of " + nail + " of " + nails, xs[nail * 24 / nails], x.nailOf(nail, 0));
                Check.equal("y of " + nail + " of " + nails, ys[nail * 24 / nails], x.nailOf(nail, 1));
            }
        }
    }

    private static void propertiesOfNails() {
        RingThreads x = new RingThreads();
        x.set(1, 3);
        x.wind(4);
        x.wind(8);
        x.wind(4);
        int[] ends = {1, 0, 0, 0, 3, 0, 0, 0, 2, 0, 0, 0};
        for (int nail = 0; nail < 12; nail++) {
            Check.equal("ends at " + nail, ends[nail], x.nailOf(nail, 2));
            Check.equal("thread is at " + nail, nail == 4 ? 1 : 0, x.nailOf(nail, 3));
        }
    }

    private static void wrongNails() {
        RingThreads x = new RingThreads();
        x.nails(4);
        Check.outside("nailOf(4, 0)", x, () -> x.nailOf(4, 0));
        Check.outside("nailOf(-1, 0)", x, () -> x.nailOf(-1, 0));
        Check.outside("nailOf(4, 9)", x, () -> x.nailOf(4, 9));
        Check.argument("nailOf(3, 4)", x, () -> x.nailOf(3, 4));
        Check.argument("nailOf(3, -1)", x, () -> x.nailOf(3, -1));
    }

    private static void chords() {
        RingThreads x = new RingThreads();
        Check.equal("chord(0, 6, 0)", 120, x.chord(0, 6, 0));
        Check.equal("chord(6, 0, 0)", 120, x.chord(6, 0, 0));
        Check.equal("chord(0, 3, 0)", 84, x.chord(0, 3, 0));
        Check.equal("chord(0, 1, 0)", 31, x.chord(0, 1, 0));
        Check.equal("chord(0, 6, 1)", 12, x.chord(0, 6, 1));
        Check.equal("chord(3, 0, 1)", 11, x.chord(3, 0, 1));
        Check.equal("chord(0, 3, 2)", 0, x.chord(0, 3, 2));
        x.set(1, 2);
        x.wind(3);
        x.wind(0);
        Check.equal("chord(0, 3, 2) of two", 2, x.chord(0, 3, 2));
        Check.equal("chord(3, 0, 2) of two", 2, x.chord(3, 0, 2));
        for (int what = 0; what <= 2; what++) {
            Check.equal("chord(3, 3, " + what + ")", RingThreads.NONE, x.chord(3, 3, what));
        }
    }

    private static void crossedSquares() {
        RingThreads x = new RingThreads();
        x.wind(3);
        List<String> due = List.of("11,6", "11,7", "10,7", "10,8", "9,8", "9,9", "8,9", "8,10", "7,10", "7,11", "6,11");
        for (int i = 0; i < 144; i++) {
            String square = i % 12 + "," + i / 12;
            int crosses = due.contains(square) ? 1 : 0;
            Check.equal("chords that cross " + square, crosses, x.square(i % 12, i / 12, 3));
            Check.equal("darkness of " + square, crosses, x.square(i % 12, i / 12, 1));
        }
    }

    private static void wrongChords() {
        RingThreads x = new RingThreads();
        Check.outside("chord(12, 0, 0)", x, () -> x.chord(12, 0, 0));
        Check.outside("chord(0, 12, 0)", x, () -> x.chord(0, 12, 0));
        Check.outside("chord(0, -1, 0)", x, () -> x.chord(0, -1, 0));
        Check.outside("chord(-1, 0, 7)", x, () -> x.chord(-1, 0, 7));
        Check.argument("chord(0, 1, 3)", x, () -> x.chord(0, 1, 3));
        Check.argument("chord(0, 1, -1)", x, () -> x.chord(0, 1, -1));
        Check.argument("chord(2, 2, 3)", x, () -> x.chord(2, 2, 3));
    }
}
