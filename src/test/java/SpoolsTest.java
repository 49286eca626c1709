/** Promises 3, 4, 5, 19 and 24: spools, knots and settings. */
final class SpoolsTest {
    private SpoolsTest() {
    }

    public static void main(String[] args) {
        changedSpools();
        wrongSpools();
        knots();
        propertiesOfSpools();
        settings();
        effectOfSettings();
        Check.end();
    }

    private static void changedSpools() {
        RingThreads x = new RingThreads();
        Check.equal("spool(1, 9, 9999)", 2000, x.spool(1, 9, 9999));
        Check.equal("spool(1, 1, 0)", 9999, x.spool(1, 1, 0));
        Check.equal("shade", 1, x.spoolOf(1, 0));
        Check.equal("length", 0, x.spoolOf(1, 1));
        Check.equal("saved states", 2, x.count(12));
        x.undo();
        Check.equal("shade behind undo", 9, x.spoolOf(1, 0));
        Check.equal("length behind undo", 9999, x.spoolOf(1, 1));
    }

    private static void wrongSpools() {
        RingThreads x = new RingThreads();
        Check.outside("spool(3, 0, -1)", x, () -> x.spool(3, 0, -1));
        Check.outside("spool(-1, 1, 1)", x, () -> x.spool(-1, 1, 1));
        Check.argument("spool(1, 0, 0)", x, () -> x.spool(1, 0, 0));
        Check.argument("spool(1, 10, 0)", x, () -> x.spool(1, 10, 0));
        Check.argument("spool(1, 1, -1)", x, () -> x.spool(1, 1, -1));
        Check.argument("spool(1, 1, 10000)", x, () -> x.spool(1, 1, 10000));
        Check.argument("spool(0, 0, 0)", x, () -> x.spool(0, 0, 0));
        Check.state("spool(0, 1, 1)", x, () -> x.spool(0, 1, 1));
        x.wind(6);
        x.knot(1);
        Check.state("spool(0, 1, 1) of a chord", x, () -> x.spool(0, 1, 1));
        x.unwind();
        x.knot(2);
        Check.equal("spool(0, 5, 7) without a chord", 2000, x.spool(0, 5, 7));
    }

    private static void knots() {
        RingThreads x = new RingThreads();
        x.wind(5);
        Check.equal("knot(2)", 1, x.knot(2));
        Check.equal("knot(1)", 2, x.knot(1));
        Check.equal("the thread stays", 5, x.count(1));
        Check.equal("the spool of now", 1, x.count(2));
        Check.equal("knots", 2, x.count(6));
        x.spool(2, 2, 100);
        Check.equal("knot(2), the same shade", 3, x.knot(2));
        x.unwind();
        Check.equal("unwind takes the spool of the chord", 0, x.count(2));
        Check.equal("that is no knot", 3, x.count(6));
        Check.outside("knot(3)", x, () -> x.knot(3));
        Check.outside("knot(-1)", x, () -> x.knot(-1));
        Check.state("knot(0)", x, () -> x.knot(0));
    }

    private static void propertiesOfSpools() {
        RingThreads x = new RingThreads();
        x.wind(6);
        x.knot(2);
        x.wind(3);
        x.wind(0);
        int[][] due = {{1, 1880, 120, 1, 0}, {2, 2000, 0, 0, 0}, {3, 1832, 168, 2, 1}};
        for (int spool = 0; spool < 3; spool++) {
            for (int what = 0; what <= 4; what++) {
                Check.equal("spoolOf(" + spool + ", " + what + ")", due[spool][what], x.spoolOf(spool, what));
            }
        }
        Check.equal("all thread that lies", 288, x.count(11));
        x.knot(1);
        x.wind(1);
        Check.equal("all thread that lies, of three spools", 319, x.count(11));
        Check.outside("spoolOf(3, 9)", x, () -> x.spoolOf(3, 9));
        Check.outside("spoolOf(-1, 0)", x, () -> x.spoolOf(-1, 0));
        Check.argument("spoolOf(0, 5)", x, () -> x.spoolOf(0, 5));
        Check.argument("spoolOf(0, -1)", x, () -> x.spoolOf(0, -1));
    }

    private static void settings() {
        RingThreads x = new RingThreads();
        int[] most = {6, 9, 9};
        int[] first = {1, 1, 2};
        for (int setting = 0; setting < 3; setting++) {
            int i = setting;
            Check.equal("set(" + i + ", most)", first[i], x.set(i, most[i]));
            Check.equal("set(" + i + ", 1)", most[i], x.set(i, 1));
            Check.equal("setting(" + i + ")", 1, x.setting(i));
            x.undo();
            Check.equal("setting(" + i + ") behind undo", most[i], x.setting(i));
            Check.argument("set(" + i + ", 0)", x, () -> x.set(i, 0));
            Check.argument("set(" + i + ", above)", x, () -> x.set(i, most[i] + 1));
        }
        Check.outside("set(3, 0)", x, () -> x.set(3, 0));
        Check.outside("set(-1, 1)", x, () -> x.set(-1, 1));
        Check.outside("setting(3)", x, () -> x.setting(3));
        Check.outside("setting(-1)", x, () -> x.setting(-1));
    }

    private static void effectOfSettings() {
        RingThreads x = new RingThreads();
        x.want(4, 4, 5);
        Check.equal("lack at first", 10010, x.square(4, 4, 2));
        x.set(2, 9);
        Check.equal("lack then", 10045, x.square(4, 4, 2));
        x.set(1, 3);
        x.wind(6);
        x.wind(0);
        Check.equal("whyNot of two of three", 0, x.whyNot(6));
        x.set(1, 1);
        Check.equal("whyNot of two of one", 3, x.whyNot(6));
    }
}
