import java.util.function.Consumer;

/** The bounds of numbers, exceptions and the digest: "Exceptions", promises 23 and 32. */
final class CountBounds {
    private final Sentences doc;

    private CountBounds(Sentences doc) {
        this.doc = doc;
    }

    static void run(Sentences doc) {
        CountBounds bounds = new CountBounds(doc);
        doc.run(
            bounds::none, bounds::nothingChanged, bounds::firstNamed, bounds::counts, bounds::misfits,
            bounds::squares, bounds::countTaken, bounds::digest, bounds::digestParts);
    }

    private void none() {
        doc.named("Exceptions", "The constants: `NONE = -1`: There is nothing to return.");
        Check.equal("NONE", -1, RingThreads.NONE);
        Check.equal("best() of none", -1, Twins.made(Rings.thread(1, 0)).best());
    }

    /** Each exception that can be thrown, on a ring with all that could be changed. */
    private void nothingChanged() {
        doc.named("Exceptions", "A call that throws an exception changes nothing.");
        Consumer<RingThreads> busy = Rings::busy;
        Twins.argument("nails(5)", busy, x -> x.nails(5));
        Twins.outside("spool(3, 1, 1)", busy, x -> x.spool(3, 1, 1));
        Twins.argument("spool(1, 10, 1)", busy, x -> x.spool(1, 10, 1));
        Twins.argument("spool(1, 1, 10000)", busy, x -> x.spool(1, 1, 10000));
        Twins.state("spool(2, 1, 1)", busy, x -> x.spool(2, 1, 1));
        Twins.outside("knot(3)", busy, x -> x.knot(3));
        Twins.state("knot(2)", busy, x -> x.knot(2));
        Twins.outside("set(3, 1)", busy, x -> x.set(3, 1));
        Twins.argument("set(0, 7)", busy, x -> x.set(0, 7));
        Twins.outside("wind(24)", busy, x -> x.wind(24));
        Twins.state("wind(9)", Rings.around(200).andThen(x -> x.keep(0)), x -> x.wind(9));
        Twins.state("unwind()", x -> x.keep(0), x -> x.unwind());
        Twins.argument("windBest(51)", busy, x -> x.windBest(51));
        Twins.outside("want(12, 0, 1)", busy, x -> x.want(12, 0, 1));
        Twins.argument("want(0, 0, 10)", busy, x -> x.want(0, 0, 10));
        Twins.argument("turnFace(3)", busy, x -> x.turnFace(3));
        Twins.argument("append(32)", busy, x -> x.append(32));
        Twins.state("append(33)", Rings.typed("a".repeat(60)), x -> x.append(33));
        Twins.argument("load()", busy, x -> x.load());
        Twins.argument("keep(2)", busy, x -> x.keep(2));
        Twins.argument("goBack(2)", busy, x -> x.goBack(2));
        Twins.state("goBack(0)", Rings.around(9), x -> x.goBack(0));
        Twins.state("undo()", x -> x.keep(0), x -> x.undo());
        Twins.outside("nailOf(24, 0)", busy, x -> x.nailOf(24, 0));
        Twins.argument("nailOf(0, 4)", busy, x -> x.nailOf(0, 4));
        Twins.outside("spoolOf(3, 0)", busy, x -> x.spoolOf(3, 0));
        Twins.argument("spoolOf(0, 5)", busy, x -> x.spoolOf(0, 5));
        Twins.outside("chord(24, 0, 0)", busy, x -> x.chord(24, 0, 0));
        Twins.argument("chord(0, 1, 3)", busy, x -> x.chord(0, 1, 3));
        Twins.argument("wound(-1, 0)", busy, x -> x.wound(-1, 0));
        Twins.outside("square(12, 0, 0)", busy, x -> x.square(12, 0, 0));
        Twins.argument("square(0, 0, 4)", busy, x -> x.square(0, 0, 4));
        Twins.argument("count(13)", busy, x -> x.count(13));
        Twins.outside("setting(3)", busy, x -> x.setting(3));
        Twins.outside("whyNot(24)", busy, x -> x.whyNot(24));
        Twins.outside("gain(24)", busy, x -> x.gain(24));
    }

    private void firstNamed() {
        doc.named("Exceptions",
            "If several exceptions apply, the one that is named first in the throws clause is thrown.");
        Consumer<RingThreads> busy = Rings::busy;
        Twins.outside("spool(3, 0, -1)", busy, x -> x.spool(3, 0, -1));
        Twins.argument("spool(2, 0, 1), the one of now", busy, x -> x.spool(2, 0, 1));
        Twins.argument("spool(0, 1, 10000), of which chords lie", busy, x -> x.spool(0, 1, 10000));
        Twins.outside("set(3, 0)", busy, x -> x.set(3, 0));
        Twins.outside("wind(24) with 200 chords", Rings.around(200), x -> x.wind(24));
        Twins.outside("want(12, 12, 10)", busy, x -> x.want(12, 12, 10));
        Twins.argument("append(127) with 60 characters", Rings.typed("a".repeat(60)), x -> x.append(127));
        Twins.argument("goBack(2) of empty slots", Rings::fresh, x -> x.goBack(2));
        Twins.outside("nailOf(-1, 4)", busy, x -> x.nailOf(-1, 4));
        Twins.outside("spoolOf(-1, 5)", busy, x -> x.spoolOf(-1, 5));
        Twins.outside("chord(0, 24, 3)", busy, x -> x.chord(0, 24, 3));
        Twins.outside("chord(24, 24, 3)", busy, x -> x.chord(24, 24, 3));
        Twins.outside("square(0, -1, 4)", busy, x -> x.square(0, -1, 4));
    }

    private static void counts(String what, RingThreads x, int... due) {
        for (int i = 0; i < due.length; i++) {
            Check.equal("count(" + i + ") " + what, due[i], x.count(i));
        }
    }

    private void counts() {
        doc.promise(23,
            "0: nails; 1: the nail of now; 2: the spool of now; 3: chords that lie; 4: chords wound so far; 5: "
            + "chords that were");
        counts("of a new ring", new RingThreads(), 12, 0, 0, 0, 0, 0, 0, 0, 0, 0, 0, 0, 0);
        RingThreads x = Twins.made(Rings.around(200));
        int thread = 9999 - x.spoolOf(1, 1);
        int misfit = 0;
        int dark = 0;
        for (int i = 0; i < 144; i++) {
            misfit += x.square(i % 12, i / 12, 1);
            dark += x.square(i % 12, i / 12, 3) > 0 ? 1 : 0;
        }
        counts("of 200 chords", x, 24, 8, 1, 200, 200, 0, 1, misfit, misfit, 0, dark, thread, 6);
        RingThreads y = Twins.made(Rings.around(200).andThen(z -> {
            z.unwind();
            z.wind(7);
            z.wind(8);
        }));
        counts("of a ring wound again", y, 24, 8, 1, 200, 201, 1, 1, misfit, misfit, 0, dark, thread, 6);
        RingThreads last = Twins.made(z -> {
            z.nails(4);
            z.wind(3);
            z.knot(2);
            z.wind(2);
        });
        counts("of a ring of 4", last, 4, 2, 2, 2, 2, 0, 1);
        Check.equal("count(11) of two spools", 84 + 84, last.count(11));
    }

    private void misfits() {
        doc.promise(23,
            "7: the misfit, told by all squares as they are; 8: the misfit, told by that of the bare ring, less the "
            + "gains of all chords that lie, one after the other, as they lie");
        RingThreads x = Twins.made(y -> {
            y.set(1, 2);
            y.set(2, 1);
            Check.load(y, "g222222222222");
        });
        int[] due = {24, 12, 24, 12};
        for (int step = 0; step < 4; step++) {
            Check.equal("count(7) behind step " + step, due[step], x.count(7));
            Check.equal("count(8) behind step " + step, due[step], x.count(8));
            if (step == 1) {
                // From lacks of 1 to those of -2: no square is right in between.
                x.knot(2);
            }
            if (step == 2) {
                x.unwind();
            } else {
                x.wind(step == 0 ? 6 : 0);
            }
        }
        RingThreads dark = Twins.made(Rings.around(200));
        Check.load(dark, Rings.DARK_FACE);
        Check.equal("both misfits of 200 chords, with greys that came later", dark.count(7), dark.count(8));
        dark.set(2, 9);
        Check.equal("both misfits with another darkness", dark.count(7), dark.count(8));
        dark.nails(24);
        Check.equal("count(8) of the bare ring", 144 * 81, dark.count(8));
    }

    private void squares() {
        doc.promise(23, "9: squares that lack, 10: squares that have too much");
        RingThreads x = Twins.made(y -> y.turnFace(2));
        Check.equal("count(9) of all", 144, x.count(9));
        Check.equal("count(10) of none", 0, x.count(10));
        RingThreads z = Twins.made(y -> {
            y.set(2, 1);
            y.want(0, 6, 1);
            y.want(1, 6, 2);
            y.want(2, 6, 3);
            y.wind(6);
        });
        Check.equal("count(9), lacks of 1 and 2, but none of 0", 2, z.count(9));
        Check.equal("count(10), lacks of -1, but none of 0", 9, z.count(10));
        doc.promise(23, "11: all thread that lies; 12: saved states");
        z.knot(1);
        z.wind(3);
        z.knot(2);
        z.wind(0);
        Check.equal("count(11) of three spools", 120 + 84 + 84, z.count(11));
        Check.equal("count(12) of more than six", 6, z.count(12));
    }

    private void countTaken() {
        doc.promise(23, "Returns a number.");
        Twins.alike("count changes nothing", Rings.around(9).andThen(x -> {
            for (int what = 0; what <= 12; what++) {
                x.count(what);
            }
        }), Rings.around(9));
        doc.promise(23, "Returns the number.");
        Check.equal("count(0)", 12, new RingThreads().count(0));
        Check.equal("count(12)", 1, Twins.made(x -> x.wind(0)).count(12));
        doc.promise(23, "Throws `IllegalArgumentException` if what is not 0 to 12");
        for (int what : new int[] {13, -1, 14, Integer.MIN_VALUE, Integer.MAX_VALUE}) {
            Twins.argument("count(" + what + ")", Rings::busy, x -> x.count(what));
        }
    }

    private void digest() {
        doc.promise(32, "The hash starts at 3301.");
        DigestTest.compare("a new ring", Rings::fresh, 0, "");
        doc.promise(32,
            "For each value v of the following list, in order, the hash becomes 31 * hash + v, in long arithmetic "
            + "with overflow.");
        DigestTest.compare("a busy ring", Rings::busy, 3, "a12;b");
        doc.promise(32, "Computes a hash of the whole state.");
        Twins.alike("digest changes nothing", Rings.around(9).andThen(x -> x.digest()), Rings.around(9));
        doc.promise(32, "Returns the hash.");
        Check.equal("digest() of two new rings", new RingThreads().digest(), new RingThreads().digest());
    }

    private void digestParts() {
        doc.promise(32, "for the chords 0 to 9 that lie (ago) their numbers 0 to 2 (NONE where there is none)");
        for (int chords : new int[] {0, 1, 9, 10, 11, 200}) {
            DigestTest.compare(chords + " chords", Rings.around(chords), 0, "");
        }
        doc.promise(32, "for each nail its properties 0 to 3, whyNot, and gain");
        for (int many : new int[] {4, 6, 8, 12, 24}) {
            DigestTest.compare(many + " nails", x -> x.nails(many), 0, "");
        }
        doc.promise(32, "best; bestTwo; palest; bestSpool; the bits of shownShare (as Double.doubleToLongBits)");
        DigestTest.compare("none of any", Rings.thread(1, 0).andThen(x -> x.set(0, 6)), 0, "");
        DigestTest.compare("a share of 0", x -> x.turnFace(2), 0, "");
        DigestTest.compare("a share of 1/144", x -> {
            x.turnFace(2);
            x.want(3, 3, 0);
        }, 0, "");
        DigestTest.compare("a share of 143/144", x -> x.want(3, 3, 1), 0, "");
        doc.promise(32, "for each slot 1 if it has a snapshot, otherwise 0");
        DigestTest.compare("the first slot", x -> x.keep(0), 1, "");
        DigestTest.compare("the last slot", x -> x.keep(1), 2, "");
        doc.promise(32, "the length of the buffer and each of its character codes");
        DigestTest.compare("a full buffer", Rings.typed("!~".repeat(30)), 0, "!~".repeat(30));
        DigestTest.compare("a buffer of one", Rings.typed("a"), 0, "a");
    }
}
