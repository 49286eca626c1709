import java.util.function.Consumer;

/** The bounds of chords that are wound, refused and unwound: "Threads", promises 6, 7, 8, 21 and 25. */
final class ChordBounds {
    private static final int[] EACH_MANY = {4, 6, 8, 12, 24};
    private static final int[] FAR = {Integer.MIN_VALUE, Integer.MAX_VALUE};

    private final Sentences doc;

    private ChordBounds(Sentences doc) {
        this.doc = doc;
    }

    static void run(Sentences doc) {
        ChordBounds bounds = new ChordBounds(doc);
        doc.run(
            bounds::darkness, bounds::sameNail, bounds::nailsApart, bounds::timesLying, bounds::threadLeft,
            bounds::firstReason, bounds::wind, bounds::windRefused, bounds::most200, bounds::unwound,
            bounds::unwind, bounds::windBestEnds, bounds::windBest, bounds::wound, bounds::whyNot);
    }

    /** Tells the same by whyNot and by wind, of which the second one is counted. */
    private static void reason(String what, int due, Consumer<RingThreads> recipe, int nail) {
        RingThreads x = Twins.made(recipe);
        Check.equal("whyNot(" + nail + "), " + what, due, x.whyNot(nail));
        int[] ahead = {x.count(1), x.count(3), x.count(4), x.count(5)};
        Check.equal("wind(" + nail + "), " + what, due, x.wind(nail));
        int laid = due == 0 ? 1 : 0;
        Check.equal("the nail of now, " + what, due == 0 ? nail : ahead[0], x.count(1));
        Check.equal("chords that lie, " + what, ahead[1] + laid, x.count(3));
        Check.equal("chords wound so far, " + what, ahead[2] + laid, x.count(4));
        Check.equal("chords refused so far, " + what, ahead[3] + 1 - laid, x.count(5));
    }

    private static int darknessOfAll(RingThreads x) {
        int sum = 0;
        for (int i = 0; i < 144; i++) {
            sum += x.square(i % 12, i / 12, 1);
        }
        return sum;
    }

    private void darkness() {
        doc.named("Threads",
            "each square that it crosses becomes darker by the shade of the spool of now, once, however many of its "
            + "points lie in it");
        for (int shade : new int[] {1, 9}) {
            RingThreads x = Twins.made(Rings.thread(shade, 120).andThen(y -> y.wind(6)));
            Check.equal("the first of 12 squares, of 10 points and an end", shade, x.square(11, 6, 1));
            Check.equal("the last of 12 squares", shade, x.square(0, 6, 1));
            Check.equal("all darkness", 12 * shade, darknessOfAll(x));
        }
        RingThreads twice = Twins.made(y -> {
            y.set(1, 2);
            y.wind(6);
            y.knot(2);
            y.wind(0);
        });
        Check.equal("darkness of two chords", 4, twice.square(11, 6, 1));
        doc.named("Threads",
            "the thread of the spool becomes less by the length of the chord; the thread is at the other nail then");
        Check.equal("thread of the first spool", 1880, twice.spoolOf(0, 1));
        Check.equal("thread of the last spool", 1880, twice.spoolOf(2, 1));
        Check.equal("the nail of now", 0, twice.count(1));
    }

    private void sameNail() {
        doc.named("Threads", "1: it is the same nail");
        for (int many : EACH_MANY) {
            reason("the first nail of " + many, 1, x -> x.nails(many), 0);
            reason("the second nail of " + many, 0, x -> x.nails(many), 1);
            reason("the last nail of " + many, 0, x -> x.nails(many), many - 1);
            Consumer<RingThreads> atLast = x -> {
                x.nails(many);
                x.set(1, 2);
                x.wind(many - 1);
            };
            reason("the last nail of " + many + " from there", 1, atLast, many - 1);
            reason("the first nail of " + many + " from the last one", 0, atLast, 0);
        }
    }

    private void nailsApart() {
        doc.named("Threads", "2: both nails are fewer than setting 0 apart, the shorter way around");
        for (int apart = 2; apart <= 6; apart++) {
            int least = apart;
            Consumer<RingThreads> atFirst = x -> {
                x.nails(24);
                x.set(0, least);
            };
            reason(least + " of " + least + " apart", 0, atFirst, least);
            reason("one fewer than " + least + " apart", 2, atFirst, least - 1);
            reason(least + " of " + least + " apart, around", 0, atFirst, 24 - least);
            reason("one fewer than " + least + " apart, around", 2, atFirst, 24 - least + 1);
            Consumer<RingThreads> atLast = x -> {
                x.nails(24);
                x.wind(23);
                x.set(0, least);
            };
            reason(least + " of " + least + " apart from the last, around", 0, atLast, least - 1);
            reason("one fewer than " + least + " apart from the last, around", 2, atLast, least - 2);
            reason(least + " of " + least + " apart from the last", 0, atLast, 23 - least);
            reason("one fewer than " + least + " apart from the last", 2, atLast, 23 - least + 1);
        }
        for (int many : new int[] {4, 6, 8, 12}) {
            int half = many / 2;
            reason("across of " + many, 0, apart(many, half), half);
            reason("one less than across of " + many, 2, apart(many, half), half - 1);
            reason("one more than across of " + many, 2, apart(many, half), half + 1);
        }
        reason("across of 4, 3 apart", 2, apart(4, 3), 2);
        reason("across of 8, 5 apart", 2, apart(8, 5), 4);
    }

    private static Consumer<RingThreads> apart(int nails, int apart) {
        return x -> {
            x.nails(nails);
            x.set(0, apart);
        };
    }

    /** Of 4 nails, that between 0 and 1 lies so many times. */
    private static Consumer<RingThreads> toAndFro(int times) {
        return x -> {
            x.nails(4);
            x.set(1, 9);
            for (int i = 1; i <= times; i++) {
                x.wind(i % 2);
            }
        };
    }

    private void timesLying() {
        doc.named("Threads", "3: this chord lies setting 1 times already");
        for (int times = 1; times <= 9; times++) {
            int most = times;
            Consumer<RingThreads> oneLess = toAndFro(most - 1).andThen(x -> x.set(1, most));
            Consumer<RingThreads> full = toAndFro(most).andThen(x -> x.set(1, most));
            reason("that lies once less than " + most + " times", 0, oneLess, most % 2);
            reason("that lies " + most + " times", 3, full, (most + 1) % 2);
            reason("another chord than that of " + most + " times", 0, full, 2);
        }
        reason("that lies more often than the setting now says", 3, toAndFro(3).andThen(x -> x.set(1, 2)), 0);
        reason("that lies once again less often", 0, toAndFro(2).andThen(x -> {
            x.set(1, 2);
            x.unwind();
        }), 0);
    }

    private void threadLeft() {
        doc.named("Threads", "4: the thread of the spool is less than its length");
        reason("of just as much thread", 0, Rings.thread(1, 120), 6);
        reason("of one less", 4, Rings.thread(1, 119), 6);
        reason("of one more", 0, Rings.thread(1, 121), 6);
        reason("of just as much for the shortest", 0, Rings.thread(1, 31), 11);
        reason("of one less for the shortest", 4, Rings.thread(1, 30), 11);
        reason("of no thread", 4, Rings.thread(1, 0), 1);
        Consumer<RingThreads> usedUp = Rings.thread(1, 151).andThen(x -> x.wind(6));
        Check.equal("thread that is left", 31, Twins.made(usedUp).spoolOf(1, 1));
        reason("of just as much as is left", 0, usedUp, 7);
        reason("of more than is left", 4, usedUp, 8);
        reason("of the same, but with another spool", 0, usedUp.andThen(x -> x.knot(2)), 8);
        Consumer<RingThreads> both = Rings.thread(1, 151).andThen(x -> {
            x.wind(6);
            x.wind(7);
        });
        Check.equal("the last thread of the spool is wound", 0, Twins.made(both).spoolOf(1, 1));
    }

    private void firstReason() {
        doc.named("Threads", "The chord is refused, for the first of these reasons that is so");
        reason("the first reason ahead of the second one", 1, x -> x.set(0, 6), 0);
        reason("the first reason ahead of the fourth one", 1, Rings.thread(1, 0), 0);
        Consumer<RingThreads> near = x -> {
            x.wind(1);
            x.set(0, 2);
        };
        reason("the second reason ahead of the third one", 2, near, 0);
        reason("the second reason ahead of the fourth one", 2, Rings.thread(1, 0).andThen(x -> x.set(0, 2)), 1);
        reason("the second reason ahead of both", 2, near.andThen(Rings.thread(1, 0)), 0);
        Consumer<RingThreads> often = Rings.thread(1, 31).andThen(x -> x.wind(1));
        reason("the third reason ahead of the fourth one", 3, often, 0);
        reason("the fourth reason alone", 4, often, 2);
    }

    private void wind() {
        doc.promise(6, "- `nail`: a nail");
        for (int many : EACH_MANY) {
            Check.equal("wind of the last nail of " + many, 0, Twins.made(x -> x.nails(many)).wind(many - 1));
        }
        doc.promise(6, "Winds a chord.");
        RingThreads x = new RingThreads();
        x.wind(11);
        Check.equal("from", 0, x.wound(0, 0));
        Check.equal("to", 11, x.wound(0, 1));
        doc.promise(6, "Returns 0 if it is wound; otherwise the reason.");
        Check.equal("wind(5)", 0, x.wind(5));
        Check.equal("wind(5), where it is", 1, x.wind(5));
        doc.promise(6, "Undoable, also if it is refused.");
        Twins.undoable("wind(9)", Rings::busy, y -> y.wind(9));
        Twins.undoable("wind, refused for the reason 1", Rings::fresh, y -> y.wind(0));
        Twins.undoable("wind, refused for the reason 2", y -> y.set(0, 2), y -> y.wind(1));
        Twins.undoable("wind, refused for the reason 3", y -> y.wind(1), y -> y.wind(0));
        Twins.undoable("wind, refused for the reason 4", Rings.thread(1, 0), y -> y.wind(1));
    }

    private void windRefused() {
        doc.promise(6, "Throws `IndexOutOfBoundsException` if there is no such nail");
        for (int many : EACH_MANY) {
            Twins.outside("wind(" + many + ")", x -> x.nails(many), x -> x.wind(many));
        }
        Twins.outside("wind(-1)", Rings::busy, x -> x.wind(-1));
        for (int far : FAR) {
            Twins.outside("wind(" + far + ")", Rings::busy, x -> x.wind(far));
        }
        Twins.outside("wind(24) with 200 chords, ahead of the other exception", Rings.around(200), x -> x.wind(24));
        Twins.outside("wind(-1) with 200 chords, ahead of the other exception", Rings.around(200), x -> x.wind(-1));
        doc.promise(6, "Throws `IllegalStateException` if 200 chords lie");
        Twins.state("wind(9)", Rings.around(200), x -> x.wind(9));
        Twins.state("wind(8), the same nail", Rings.around(200), x -> x.wind(8));
        Twins.state("wind(9) without thread", Rings.around(200).andThen(x -> {
            x.spool(2, 1, 0);
            x.knot(2);
        }), x -> x.wind(9));
        Twins.state("wind(7), too near and too often", Rings.around(200).andThen(x -> {
            x.set(0, 6);
            x.set(1, 1);
        }), x -> x.wind(7));
    }

    private void most200() {
        doc.named("Threads", "At most 200 chords lie.");
        reason("the last of 200", 0, Rings.around(199), 8);
        RingThreads x = Twins.made(Rings.around(199));
        x.wind(8);
        Check.equal("chords that lie", 200, x.count(3));
        x.unwind();
        Check.equal("wind behind unwind", 0, x.wind(8));
        Check.equal("chords wound so far, more than can lie", 201, x.count(4));
        x.undo();
        Check.equal("wind behind undo", 0, x.wind(8));
        x.nails(24);
        Check.equal("wind behind nails", 0, x.wind(8));
    }

    private void unwound() {
        doc.named("Threads", "its squares become less dark, the thread goes back to its spool");
        RingThreads x = Twins.made(Rings.thread(9, 120).andThen(y -> {
            y.wind(6);
            y.unwind();
        }));
        Check.equal("all darkness", 0, darknessOfAll(x));
        Check.equal("the thread of the empty spool", 120, x.spoolOf(1, 1));
        RingThreads twice = Twins.made(y -> {
            y.set(1, 2);
            y.wind(6);
            y.knot(2);
            y.wind(0);
            y.knot(1);
            y.unwind();
        });
        Check.equal("all darkness, of the first chord", 12, darknessOfAll(twice));
        Check.equal("the thread of the last spool", 2000, twice.spoolOf(2, 1));
        Check.equal("the thread of the first spool", 1880, twice.spoolOf(0, 1));
        doc.named("Threads",
            "and the thread is at the nail where it was ahead of it; the spool of now is then the one of that chord "
            + "(that is no knot)");
        Check.equal("the nail", 6, twice.count(1));
        Check.equal("the spool", 2, twice.count(2));
        Check.equal("knots", 2, twice.count(6));
    }

    private void unwind() {
        doc.promise(7, "Returns the nail where the thread is then.");
        RingThreads x = Twins.made(Rings.around(200));
        Check.equal("unwind() of 200", 7, x.unwind());
        Check.equal("chords that lie", 199, x.count(3));
        Check.equal("unwind() of 199", 6, x.unwind());
        RingThreads y = Twins.made(Rings.around(24));
        Check.equal("unwind() back to the last nail", 23, y.unwind());
        doc.promise(7, "Unwinds the latest chord.");
        RingThreads z = Twins.made(w -> w.wind(11));
        Check.equal("unwind() of one", 0, z.unwind());
        Check.equal("chords that lie", 0, z.count(3));
        Check.equal("chords wound so far stay", 1, z.count(4));
        Check.equal("the chord lies no more", 0, z.chord(0, 11, 2));
        doc.promise(7, "Undoable.");
        Twins.undoable("unwind()", Rings::busy, w -> w.unwind());
        Twins.undoable("unwind() of one", w -> w.wind(11), w -> w.unwind());
        doc.promise(7, "Throws `IllegalStateException` if no chord lies");
        Twins.state("unwind() at first", Rings::fresh, w -> w.unwind());
        Twins.state("unwind() behind the only one", w -> {
            w.wind(11);
            w.unwind();
        }, w -> w.unwind());
        Twins.state("unwind() behind nails", Rings.around(200).andThen(w -> w.nails(24)), w -> w.unwind());
        Twins.state("unwind() behind a refused chord", w -> w.wind(0), w -> w.unwind());
    }

    private static Consumer<RingThreads> dark(int chords) {
        return Rings.around(chords).andThen(x -> {
            x.set(2, 9);
            Check.load(x, Rings.DARK_FACE);
        });
    }

    private void windBestEnds() {
        doc.promise(8, "until there is none with a gain above 0");
        // Of 4 nails, the chord to 2 crosses 12 squares, that to 3 crosses 7 of which (11, 6) is one.
        Consumer<RingThreads> plain = x -> {
            x.nails(4);
            x.set(2, 1);
        };
        RingThreads none = Twins.made(plain.andThen(x -> Check.load(x, "g111111")));
        Check.equal("gain(2)", 10000, none.gain(2));
        Check.equal("best()", 2, none.best());
        Check.equal("windBest(50) of a gain of 0", 0, none.windBest(50));
        Check.equal("chords that lie", 0, none.count(3));
        RingThreads one = Twins.made(Rings.wanted("10,4 9,3 8,2 7,1", 1));
        Check.equal("gain(3)", 10001, one.gain(3));
        Check.equal("windBest(50) of a gain of 1", 1, one.windBest(50));
        Check.equal("the nail of now", 3, one.count(1));
        RingThreads bare = Twins.made(Rings::fresh);
        Check.equal("windBest(50) of gains below 0", 0, bare.windBest(50));
        RingThreads refused = Twins.made(dark(0).andThen(x -> {
            x.spool(2, 9, 15);
            x.knot(2);
        }));
        Check.equal("windBest(50), all refused", 0, refused.windBest(50));
        Check.equal("chords refused so far", 0, refused.count(5));
        doc.promise(8, "or 200 chords lie");
        int[][] due = {{150, 50}, {151, 49}, {199, 1}, {200, 0}};
        for (int[] many : due) {
            RingThreads x = Twins.made(dark(many[0]));
            Check.equal("windBest(50) behind " + many[0], many[1], x.windBest(50));
            Check.equal("chords that lie", 200, x.count(3));
        }
        doc.promise(8, "or so many are wound");
        for (int most : new int[] {1, 2, 49, 50}) {
            RingThreads x = Twins.made(dark(0));
            Check.equal("windBest(" + most + ")", most, x.windBest(most));
            Check.equal("chords that lie", most, x.count(3));
            Check.equal("chords wound so far", most, x.count(4));
        }
    }

    private void windBest() {
        doc.promise(8, "Winds the best chord, again and again");
        Consumer<RingThreads> face = x -> Check.load(x, "c*5;f*9;g*9;h123456789012");
        RingThreads x = Twins.made(face);
        RingThreads y = Twins.made(face);
        while (y.best() != RingThreads.NONE && y.gain(y.best()) > 10000) {
            y.wind(y.best());
        }
        Check.equal("windBest(50)", y.count(3), x.windBest(50));
        for (int ago = 0; ago <= y.count(3); ago++) {
            Check.equal("the nail of the chord " + ago, y.wound(ago, 1), x.wound(ago, 1));
        }
        doc.promise(8, "Returns how many are wound.");
        Check.equal("windBest(50) again", 0, x.windBest(50));
        Check.equal("chords wound so far", y.count(4), x.count(4));
        doc.promise(8, "Undoable, as one call.");
        Consumer<RingThreads> deep = z -> {
            z.set(1, 9);
            z.set(2, 9);
            Check.load(z, Rings.DARK_FACE);
        };
        Check.isTrue("windBest(50) winds many", Twins.made(deep).windBest(50) > 10);
        Twins.undoable("windBest(50)", deep, z -> z.windBest(50));
        Twins.undoable("windBest(1)", deep, z -> z.windBest(1));
        Twins.undoable("windBest(50) of none", Rings::fresh, z -> z.windBest(50));
        doc.promise(8, "- `most`: 1 to 50");
        Check.equal("windBest(1)", 1, Twins.made(dark(0)).windBest(1));
        Check.equal("windBest(50)", 50, Twins.made(dark(0)).windBest(50));
        doc.promise(8, "Throws `IllegalArgumentException` if most is out of range");
        for (int most : new int[] {0, 51, -1, Integer.MIN_VALUE, Integer.MAX_VALUE}) {
            Twins.argument("windBest(" + most + ")", Rings::busy, z -> z.windBest(most));
            Twins.argument("windBest(" + most + ") with 200 chords", Rings.around(200), z -> z.windBest(most));
        }
    }

    private void wound() {
        doc.promise(21, "- `ago`: 0 for the latest one, and so on");
        RingThreads x = Twins.made(Rings.around(200));
        int[][] due = {{7, 8, 1}, {6, 7, 1}, {0, 1, 1}};
        int[] agos = {0, 1, 199};
        for (int i = 0; i < 3; i++) {
            for (int what = 0; what <= 2; what++) {
                Check.equal("wound(" + agos[i] + ", " + what + ")", due[i][what], x.wound(agos[i], what));
            }
        }
        doc.promise(21, "- `what`: 0: the nail from which it was wound; 1: the nail to which; 2: its spool");
        RingThreads y = Twins.made(z -> {
            z.wind(11);
            z.knot(2);
            z.wind(5);
            z.knot(1);
        });
        int[][] two = {{11, 5, 2}, {0, 11, 0}};
        for (int ago = 0; ago <= 1; ago++) {
            for (int what = 0; what <= 2; what++) {
                Check.equal("wound(" + ago + ", " + what + ")", two[ago][what], y.wound(ago, what));
            }
        }
        doc.promise(21, "Returns a chord that lies.");
        y.unwind();
        Check.equal("wound(0, 1) behind unwind", 11, y.wound(0, 1));
        doc.promise(21, "Returns the number; NONE if there are not so many.");
        for (int what = 0; what <= 2; what++) {
            Check.equal("wound(0, " + what + ") of none", RingThreads.NONE, new RingThreads().wound(0, what));
            Check.equal("wound(1, " + what + ") of one", RingThreads.NONE, y.wound(1, what));
            Check.equal("wound(200, " + what + ") of 200", RingThreads.NONE, x.wound(200, what));
            Check.equal("wound(201, " + what + ") of 200", RingThreads.NONE, x.wound(201, what));
            Check.equal("wound(the greatest, " + what + ")", RingThreads.NONE, x.wound(Integer.MAX_VALUE, what));
        }
        doc.promise(21, "Throws `IllegalArgumentException` if ago is below 0, or what is not 0 to 2");
        Twins.argument("wound(-1, 0)", Rings::busy, z -> z.wound(-1, 0));
        Twins.argument("wound(the least, 0)", Rings::busy, z -> z.wound(Integer.MIN_VALUE, 0));
        Twins.argument("wound(-1, 0) of none", Rings::fresh, z -> z.wound(-1, 0));
        Twins.argument("wound(0, 3)", Rings::busy, z -> z.wound(0, 3));
        Twins.argument("wound(0, -1)", Rings::busy, z -> z.wound(0, -1));
        Twins.argument("wound(0, 3) of none", Rings::fresh, z -> z.wound(0, 3));
        Twins.argument("wound(the greatest, -1)", Rings::busy, z -> z.wound(Integer.MAX_VALUE, -1));
    }

    private void whyNot() {
        doc.promise(25, "- `nail`: a nail");
        for (int many : EACH_MANY) {
            RingThreads x = Twins.made(y -> y.nails(many));
            Check.equal("whyNot(0) of " + many, 1, x.whyNot(0));
            Check.equal("whyNot(the last) of " + many, 0, x.whyNot(many - 1));
        }
        doc.promise(25, "Tells why a chord would be refused.");
        Twins.alike("whyNot changes nothing", Rings.around(3).andThen(y -> y.whyNot(3)), Rings.around(3));
        doc.promise(25, "Returns 0 if it would not be; otherwise the reason.");
        RingThreads full = Twins.made(Rings.around(200));
        Check.equal("whyNot(9): 200 chords are none of the reasons", 0, full.whyNot(9));
        Check.equal("whyNot(8) with 200 chords", 1, full.whyNot(8));
        doc.promise(25, "Throws `IndexOutOfBoundsException` if there is no such nail");
        for (int many : EACH_MANY) {
            Twins.outside("whyNot(" + many + ")", x -> x.nails(many), x -> x.whyNot(many));
        }
        Twins.outside("whyNot(-1)", Rings::busy, x -> x.whyNot(-1));
        for (int far : FAR) {
            Twins.outside("whyNot(" + far + ")", Rings::busy, x -> x.whyNot(far));
        }
    }
}
