/** Promises 6, 7, 8, 21 and 25: chords wound, refused and unwound. */
final class WindTest {
    private WindTest() {
    }

    public static void main(String[] args) {
        wound();
        refused();
        reasonsInOrder();
        unwound();
        twoHundred();
        best();
        bestOfGainNoneOrOne();
        bestUpTo200();
        Check.end();
    }

    private static void wound() {
        RingThreads x = new RingThreads();
        Check.equal("wind(6)", 0, x.wind(6));
        Check.equal("at", 6, x.count(1));
        x.knot(1);
        Check.equal("wind(3)", 0, x.wind(3));
        Check.equal("chords", 2, x.count(3));
        Check.equal("wound so far", 2, x.count(4));
        int[][] due = {{6, 3, 1}, {0, 6, 0}, {-1, -1, -1}};
        for (int ago = 0; ago < 3; ago++) {
            for (int what = 0; what <= 2; what++) {
                Check.equal("wound(" + ago + ", " + what + ")", due[ago][what], x.wound(ago, what));
            }
        }
        Check.equal("wound(the greatest, 0)", -1, x.wound(Integer.MAX_VALUE, 0));
        Check.argument("wound(-1, 0)", x, () -> x.wound(-1, 0));
        Check.argument("wound(0, 3)", x, () -> x.wound(0, 3));
        Check.argument("wound(0, -1)", x, () -> x.wound(0, -1));
        Check.argument("wound(9, 3)", x, () -> x.wound(9, 3));
        Check.equal("crossed by one", 1, x.square(11, 6, 1));
        Check.equal("crossed by both", 3, x.square(0, 6, 1));
        Check.equal("chords that cross", 2, x.square(0, 6, 3));
        x.undo();
        Check.equal("chords behind undo", 1, x.count(3));
        Check.equal("dark behind undo", 1, x.square(0, 6, 1));
    }

    private static void refused() {
        RingThreads x = new RingThreads();
        Check.equal("wind(0)", 1, x.wind(0));
        Check.equal("refused so far", 1, x.count(5));
        Check.equal("wound so far", 0, x.count(4));
        Check.equal("saved states", 1, x.count(12));
        Check.equal("undo", 0, x.undo());
        Check.equal("refused behind undo", 0, x.count(5));
        Check.outside("wind(12)", x, () -> x.wind(12));
        Check.outside("wind(-1)", x, () -> x.wind(-1));
        Check.outside("whyNot(12)", x, () -> x.whyNot(12));
        Check.outside("whyNot(-1)", x, () -> x.whyNot(-1));
    }

    private static void reasonsInOrder() {
        RingThreads x = new RingThreads();
        x.wind(1);
        x.set(0, 2);
        x.spool(1, 1, 30);
        x.knot(1);
        Check.equal("the same nail, though near too", 1, x.whyNot(1));
        Check.equal("near, though it lies and the thread is short", 2, x.whyNot(0));
        Check.equal("near the other way around", 2, x.whyNot(2));
        Check.equal("the thread is short", 4, x.whyNot(3));
        x.set(0, 1);
        Check.equal("it lies, though the thread is short", 3, x.whyNot(0));
        Check.equal("wind(0)", 3, x.wind(0));
        x.knot(2);
        x.spool(1, 1, 31);
        x.knot(1);
        Check.equal("31 of thread are enough for 31", 0, x.whyNot(2));
        Check.equal("31 of thread are not for more", 4, x.whyNot(3));
        Check.equal("wind(2)", 0, x.wind(2));
        Check.equal("thread left", 0, x.spoolOf(1, 1));
        RingThreads y = new RingThreads();
        y.set(0, 3);
        Check.equal("11 is one from 0", 2, y.whyNot(11));
        Check.equal("10 is two from 0", 2, y.whyNot(10));
        Check.equal("9 is three from 0", 0, y.whyNot(9));
        y.set(0, 6);
        Check.equal("6 is six from 0", 0, y.whyNot(6));
        Check.equal("7 is five from 0", 2, y.whyNot(7));
    }

    private static void unwound() {
        RingThreads x = new RingThreads();
        Check.state("unwind()", x, () -> x.unwind());
        x.wind(4);
        x.knot(2);
        x.wind(9);
        x.knot(1);
        Check.equal("unwind()", 4, x.unwind());
        Check.equal("the spool of the chord", 2, x.count(2));
        Check.equal("its thread", 2000, x.spoolOf(2, 1));
        Check.equal("knots stay", 2, x.count(6));
        Check.equal("wound so far stays", 2, x.count(4));
        Check.equal("unwind()", 0, x.unwind());
        Check.equal("the spool of the first chord", 0, x.count(2));
        Check.equal("squares are bare", 144, (long) (x.shownShare() * 144));
        x.undo();
        x.undo();
        Check.equal("chords behind two undos", 2, x.count(3));
        Check.equal("spool behind two undos", 1, x.count(2));
    }

    private static void goAround(RingThreads x, int many) {
        for (int i = 0; i < many; i++) {
            Check.equal("wind around", 0, x.wind((x.count(1) + 1) % 24));
        }
    }

    private static RingThreads longRing() {
        RingThreads x = new RingThreads();
        x.nails(24);
        x.set(1, 9);
        x.spool(1, 1, 9999);
        x.knot(1);
        return x;
    }

    private static void twoHundred() {
        RingThreads x = longRing();
        goAround(x, 200);
        Check.equal("chords", 200, x.count(3));
        int next = (x.count(1) + 1) % 24;
        Check.state("wind of the 201st", x, () -> x.wind(next));
        Check.state("wind of the same nail, too", x, () -> x.wind(x.count(1)));
        Check.outside("wind(24)", x, () -> x.wind(24));
        Check.equal("whyNot tells none", 0, x.whyNot(next));
        Check.isTrue("best finds one", x.best() != RingThreads.NONE);
        Check.isTrue("bestTwo finds two", x.bestTwo() != RingThreads.NONE);
        Check.equal("chords stay", 200, x.count(3));
        Check.equal("both misfits", x.count(7), x.count(8));
        Check.equal("windBest(50)", 0, x.windBest(50));
        x.unwind();
        Check.equal("wind behind an unwind", 0, x.wind(next));
    }

    private static void best() {
        RingThreads x = new RingThreads();
        Check.argument("windBest(0)", x, () -> x.windBest(0));
        Check.argument("windBest(51)", x, () -> x.windBest(51));
        Check.equal("windBest(1) of a bare face", 0, x.windBest(1));
        Check.equal("it is saved all the same", 1, x.count(12));
        Check.load(x, "g*1");
        Check.equal("windBest(1)", 1, x.windBest(1));
        Check.equal("it leads across", 6, x.count(1));
        x.set(1, 9);
        Check.equal("windBest(50) until no gain is left", 1, x.windBest(50));
        Check.equal("it leads back", 0, x.count(1));
        Check.equal("misfit", 0, x.count(7));
        Check.equal("refused so far", 0, x.count(5));
        Check.equal("wound so far", 2, x.count(4));
        x.undo();
        x.undo();
        x.undo();
        Check.load(x, "a*9;b*9;c*9;d*9;e*9;f*9;g*9;h*9;i*9;j*9;k*9;l*9");
        int done = x.windBest(50);
        Check.equal("chords", done, x.count(3));
        Check.isTrue("more than one", done > 1);
        Check.isTrue("no gain is left", x.best() == RingThreads.NONE || x.gain(x.best()) <= 10000);
        x.undo();
        Check.equal("undo of all at once", 0, x.count(3));
        Check.equal("wound so far", 0, x.count(4));
        Check.equal("windBest(3)", 3, x.windBest(3));
        Check.equal("chords", 3, x.count(3));
    }

    private static void bestOfGainNoneOrOne() {
        RingThreads x = new RingThreads();
        x.set(0, 6);
        x.set(2, 1);
        Check.load(x, "g1111110");
        Check.equal("gain(6) is 0", 10000, x.gain(6));
        Check.equal("windBest(1) without a gain", 0, x.windBest(1));
        x.want(5, 6, 2);
        Check.equal("gain(6) is 0 still", 10000, x.gain(6));
        Check.equal("windBest(1) without a gain", 0, x.windBest(1));
        x.spool(1, 2, 2000);
        x.want(6, 6, 2);
        x.knot(1);
        Check.equal("gain(6) of the darker thread", 10000 + 2 + 2 - 10 * 2 + 5 * 2, x.gain(6));
        Check.load(x, "g222222200000");
        x.want(11, 6, 1);
        x.want(10, 6, 1);
        x.want(9, 6, 1);
        Check.equal("gain(6) is above 0", 10000 + 14 - 4, x.gain(6));
        x.want(0, 6, 1);
        x.want(1, 6, 1);
        x.want(2, 6, 1);
        x.want(3, 6, 1);
        Check.equal("gain(6) is above 0 still", 10000 + 6 - 4, x.gain(6));
        Check.equal("windBest(2)", 1, x.windBest(2));
        gainOfOne();
    }

    private static void gainOfOne() {
        RingThreads x = new RingThreads();
        x.nails(4);
        x.set(0, 1);
        x.set(2, 1);
        int squares = x.chord(0, 1, 1);
        Check.equal("the chord crosses an odd number of squares", 1, squares % 2);
        wantAlong(x, squares / 2 + 1);
        Check.equal("gain(1) is 1", 10001, x.gain(1));
        Check.equal("best()", 1, x.best());
        Check.equal("windBest(9)", 1, x.windBest(9));
    }

    /** Wants a grey in so many squares of the chord from the nail 0 to the nail 1 of 4. */
    private static void wantAlong(RingThreads x, int many) {
        String way = "11,6 11,7 10,7 10,8 9,8 9,9 8,9 8,10 7,10 7,11 6,11";
        String[] squares = way.split(" ");
        for (int i = 0; i < many; i++) {
            String[] square = squares[i].split(",");
            x.want(Integer.parseInt(square[0]), Integer.parseInt(square[1]), 1);
        }
    }

    private static void bestUpTo200() {
        RingThreads x = longRing();
        goAround(x, 190);
        x.set(2, 9);
        Check.load(x, "a*9;b*9;c*9;d*9;e*9;f*9;g*9;h*9;i*9;j*9;k*9;l*9");
        Check.equal("windBest(50) up to 200", 10, x.windBest(50));
        Check.equal("chords", 200, x.count(3));
    }
}
