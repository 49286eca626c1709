/** Promises 23 and 26 to 31: numbers, gains, the best chords and spools. */
final class WouldBeTest {
    private WouldBeTest() {
    }

    public static void main(String[] args) {
        counts();
        gains();
        best();
        bestOfSeveral();
        bestTwo();
        bestTwoBackAndForth();
        bestTwoByTrial();
        palest();
        bestSpool();
        share();
        Check.end();
    }

    private static void counts() {
        RingThreads x = new RingThreads();
        x.want(0, 6, 3);
        x.want(5, 5, 4);
        x.wind(6);
        x.wind(6);
        x.knot(2);
        x.wind(3);
        int[] due = {12, 3, 2, 2, 2, 1, 1, 39, 39, 2, 17, 204, 6};
        for (int what = 0; what < due.length; what++) {
            Check.equal("count(" + what + ")", due[what], x.count(what));
        }
        x.want(0, 0, 9);
        x.knot(0);
        x.set(1, 3);
        x.wind(6);
        x.wind(3);
        Check.equal("misfit told by squares", 18 + 8 + 0 + 11 + 6 * 5, x.count(7));
        Check.equal("misfit told by gains", x.count(7), x.count(8));
        Check.argument("count(13)", x, () -> x.count(13));
        Check.argument("count(-1)", x, () -> x.count(-1));
    }

    private static void gains() {
        RingThreads x = new RingThreads();
        Check.equal("gain(0)", RingThreads.NONE, x.gain(0));
        Check.equal("gain(6) of a bare face", 9988, x.gain(6));
        Check.load(x, "g*1");
        Check.equal("gain(6)", 10012, x.gain(6));
        x.spool(2, 9, 5);
        x.knot(2);
        Check.equal("gain(6) of a dark thread, refused", 10000 - 12 * 5, x.gain(6));
        Check.equal("whyNot(6)", 4, x.whyNot(6));
        Check.outside("gain(12)", x, () -> x.gain(12));
        Check.outside("gain(-1)", x, () -> x.gain(-1));
        Check.equal("nothing is changed", 0, x.count(3));
    }

    private static void best() {
        RingThreads x = new RingThreads();
        Check.equal("best() of a bare face", 1, x.best());
        Check.load(x, "g*9");
        Check.equal("best()", 6, x.best());
        x.set(0, 6);
        Check.equal("best() of one", 6, x.best());
        x.wind(6);
        Check.equal("best() of none", RingThreads.NONE, x.best());
        Check.equal("bestTwo() of none", RingThreads.NONE, x.bestTwo());
        Check.equal("bestSpool() of none", RingThreads.NONE, x.bestSpool());
    }

    /** On a bare face a chord gains the less the more squares it crosses, however dark they are. */
    private static void bestOfSeveral() {
        RingThreads x = new RingThreads();
        x.set(1, 9);
        Check.equal("gains of 1 and 11 are the same", x.gain(1), x.gain(11));
        Check.equal("lengths of 1 and 11 are the same", x.chord(0, 1, 0), x.chord(0, 11, 0));
        Check.equal("the lowest of 1 and 11", 1, x.best());
        x.wind(1);
        x.wind(0);
        Check.equal("gains of 1 and 11 are the same still", x.gain(1), x.gain(11));
        Check.equal("that of 1 and 11 that lies the fewest times", 11, x.best());

        RingThreads y = new RingThreads();
        y.set(1, 9);
        y.wind(5);
        y.set(0, 3);
        Check.equal("gains of 1 and 2 are the same", y.gain(1), y.gain(2));
        Check.equal("from 5 to 1", 104, y.chord(5, 1, 0));
        Check.equal("from 5 to 2", 84, y.chord(5, 2, 0));
        Check.equal("the shortest", 2, y.best());

        RingThreads z = new RingThreads();
        z.set(1, 9);
        z.wind(2);
        z.wind(5);
        z.set(0, 3);
        Check.equal("gains are the same still", z.gain(1), z.gain(2));
        Check.equal("the fewest times ahead of the shortest", 1, z.best());
    }

    private static void bestTwo() {
        RingThreads x = new RingThreads();
        Check.equal("bestTwo() of a bare face", 102, x.bestTwo());
        x.set(2, 1);
        Check.load(x, "g*1");
        Check.equal("bestTwo() with one row", 605, x.bestTwo());
        Check.equal("the second one behind the first one", 5, secondBehind(x, 6));
        Check.equal("nothing is changed", 0, x.count(3));
        Check.equal("thread", 2000, x.spoolOf(0, 1));
    }

    /** The second nail of the greatest gain behind this first one, tried by winding and unwinding. */
    private static int secondBehind(RingThreads x, int first) {
        x.wind(first);
        int found = -1;
        for (int nail = 0; nail < x.count(0); nail++) {
            if (x.whyNot(nail) == 0 && (found < 0 || x.gain(nail) > x.gain(found))) {
                found = nail;
            }
        }
        x.unwind();
        return found;
    }

    private static void bestTwoBackAndForth() {
        RingThreads x = new RingThreads();
        Check.load(x, "g*2");
        Check.isTrue("no way back over the same chord", x.bestTwo() != 600);
        x.set(1, 2);
        Check.equal("there and back", 600, x.bestTwo());
        x.spool(1, 1, 239);
        x.knot(1);
        Check.isTrue("the thread of both is needed", x.bestTwo() != 600);
        x.knot(0);
        x.spool(1, 1, 240);
        x.knot(1);
        Check.equal("just enough thread", 600, x.bestTwo());
        x.knot(0);
        x.spool(1, 1, 31);
        x.knot(1);
        Check.isTrue("one chord alone", x.best() != RingThreads.NONE);
        Check.equal("no second one", RingThreads.NONE, x.bestTwo());
        x.knot(0);
        x.set(1, 3);
        x.wind(6);
        Check.equal("the nail 0 first", 6, x.bestTwo());
    }

    /** All pairs of chords wound and unwound again, on faces of many greys and from several nails. */
    private static void bestTwoByTrial() {
        String[] faces = {"a*9;b*9;c*9;d*9;e*9;f*9;g*9;h*9;i*9;j*9;k*9;l*9", "c*5;h12345678;j*3", "a1;f*2;g*2;l000000000009"};
        for (String face : faces) {
            for (int from = 1; from < 8; from += 3) {
                RingThreads x = new RingThreads();
                x.nails(8);
                x.set(1, 2);
                Check.load(x, face);
                x.wind(from);
                Check.equal("bestTwo() from " + from + " of " + face, twoByTrial(x), x.bestTwo());
            }
        }
    }

    private static int twoByTrial(RingThreads x) {
        int found = RingThreads.NONE;
        int least = Integer.MAX_VALUE;
        for (int first = 0; first < 8; first++) {
            if (x.whyNot(first) == 0) {
                x.wind(first);
                for (int second = 0; second < 8; second++) {
                    int misfit = x.count(7) - x.gain(second);
                    if (x.whyNot(second) == 0 && misfit < least) {
                        least = misfit;
                        found = 100 * first + second;
                    }
                }
                x.unwind();
            }
        }
        return found;
    }

    private static void palest() {
        RingThreads x = new RingThreads();
        Check.equal("palest() of a bare face", RingThreads.NONE, x.palest());
        x.want(0, 0, 1);
        Check.equal("the first square", 0, x.palest());
        x.want(7, 3, 2);
        x.want(2, 9, 2);
        x.want(11, 3, 2);
        Check.equal("the first of several", 307, x.palest());
        x.want(2, 11, 3);
        Check.equal("palest()", 1102, x.palest());
        RingThreads y = new RingThreads();
        y.want(0, 6, 1);
        y.set(2, 1);
        y.wind(6);
        Check.equal("none lacks, some have too much", RingThreads.NONE, y.palest());
    }

    private static void bestSpool() {
        RingThreads x = new RingThreads();
        Check.equal("of a bare face the palest", 0, x.bestSpool());
        Check.load(x, "g*9");
        Check.equal("of a dark row the darkest", 2, x.bestSpool());
        x.spool(2, 9, 0);
        Check.equal("without its thread", 1, x.bestSpool());
        x.spool(1, 1, 2000);
        Check.equal("of the same shade the lowest", 0, x.bestSpool());
        x.spool(1, 2, 119);
        x.spool(2, 3, 120);
        Check.equal("thread just long enough", 2, x.bestSpool());
        Check.equal("nothing is changed", 0, x.count(2));
    }

    private static void share() {
        RingThreads x = new RingThreads();
        Check.equal("shownShare() of a bare face", Double.valueOf(1.0), Double.valueOf(x.shownShare()));
        x.wind(6);
        Check.equal("shownShare()", Double.valueOf(132.0 / 144), Double.valueOf(x.shownShare()));
        x.turnFace(2);
        Check.equal("shownShare() of none", Double.valueOf(0.0), Double.valueOf(x.shownShare()));
    }
}
