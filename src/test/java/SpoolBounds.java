/** The bounds of spools, knots and settings: "Threads", "Settings", promises 3, 4, 5, 19 and 24. */
final class SpoolBounds {
    private static final int[] FAR = {Integer.MIN_VALUE, Integer.MAX_VALUE};

    private final Sentences doc;

    private SpoolBounds(Sentences doc) {
        this.doc = doc;
    }

    static void run(Sentences doc) {
        SpoolBounds bounds = new SpoolBounds(doc);
        doc.run(
            bounds::atFirst, bounds::knots, bounds::spoolTaken, bounds::spoolRefused, bounds::spoolInUse,
            bounds::knot, bounds::settings, bounds::set, bounds::spoolOf, bounds::setting);
    }

    private void atFirst() {
        doc.named("Threads", "There are 3 spools, numbered from 0");
        RingThreads x = new RingThreads();
        Check.equal("the first spool is the one of now", 1, x.spoolOf(0, 4));
        Check.equal("the last spool is not", 0, x.spoolOf(2, 4));
        Twins.outside("a fourth spool", Rings::fresh, y -> y.spoolOf(3, 0));
        doc.named("Threads",
            "a spool has a shade, 1 to 9 (at first 1, 2 and 3), and a length of thread that is left, 0 to 9999, at "
            + "first 2000");
        for (int spool = 0; spool < 3; spool++) {
            Check.equal("shade of " + spool, spool + 1, x.spoolOf(spool, 0));
            Check.equal("thread of " + spool, 2000, x.spoolOf(spool, 1));
        }
        doc.named("Threads", "One spool is the one of now, at first 0.");
        Check.equal("count(2)", 0, x.count(2));
        doc.named("Threads", "The thread is at a nail, at first 0.");
        Check.equal("count(1)", 0, x.count(1));
        Check.equal("nailOf(0, 3)", 1, x.nailOf(0, 3));
    }

    private void knots() {
        doc.named("Threads", "To take another spool is a knot (also one of the same shade, but not the same spool)");
        RingThreads x = Twins.made(y -> y.spool(2, 1, 2000));
        Check.equal("knot(2), of the same shade", 1, x.knot(2));
        Check.equal("knots so far", 1, x.count(6));
        Twins.state("knot(2), the same spool", y -> y.knot(2), y -> y.knot(2));
        doc.named("Threads", "the thread stays at the nail");
        RingThreads z = Twins.made(y -> {
            y.wind(11);
            y.knot(1);
        });
        Check.equal("count(1)", 11, z.count(1));
        Check.equal("chords", 1, z.count(3));
        Check.equal("the spool of the chord", 0, z.wound(0, 2));
    }

    private void spoolTaken() {
        doc.promise(3, "- `spool`: 0 to 2");
        RingThreads x = new RingThreads();
        Check.equal("spool(2, 1, 1)", 2000, x.spool(2, 1, 1));
        x.knot(1);
        Check.equal("spool(0, 1, 1)", 2000, x.spool(0, 1, 1));
        doc.promise(3, "- `shade`: 1 to 9");
        Check.equal("spool(2, 1, 5)", 1, x.spool(2, 1, 5));
        Check.equal("the least shade", 1, x.spoolOf(2, 0));
        Check.equal("spool(2, 9, 5)", 5, x.spool(2, 9, 5));
        Check.equal("the greatest shade", 9, x.spoolOf(2, 0));
        doc.promise(3, "- `length`: 0 to 9999");
        Check.equal("spool(2, 9, 0)", 5, x.spool(2, 9, 0));
        Check.equal("the least length", 0, x.spoolOf(2, 1));
        Check.equal("spool(2, 9, 9999)", 0, x.spool(2, 9, 9999));
        Check.equal("the greatest length", 9999, x.spoolOf(2, 1));
        doc.promise(3, "Returns the length that was left.");
        Check.equal("spool(2, 9, 9999) again", 9999, x.spool(2, 9, 9999));
        Check.equal("spool(2, 9, 1)", 9999, x.spool(2, 9, 1));
        doc.promise(3, "Undoable.");
        Twins.undoable("spool(1, 9, 9999)", Rings::busy, y -> y.spool(1, 9, 9999));
        Twins.undoable("spool(1, 2, 2000), as it was", Rings::fresh, y -> y.spool(1, 2, 2000));
    }

    private void spoolRefused() {
        doc.promise(3, "Throws `IndexOutOfBoundsException` if there is no such spool");
        Twins.outside("spool(3, 1, 1)", Rings::busy, y -> y.spool(3, 1, 1));
        Twins.outside("spool(-1, 1, 1)", Rings::busy, y -> y.spool(-1, 1, 1));
        for (int far : FAR) {
            Twins.outside("spool(" + far + ", 1, 1)", Rings::busy, y -> y.spool(far, 1, 1));
        }
        Twins.outside("spool(3, 0, 1), ahead of the second exception", Rings::busy, y -> y.spool(3, 0, 1));
        Twins.outside("spool(-1, 1, 10000), ahead of the second exception", Rings::busy, y -> y.spool(-1, 1, 10000));
        doc.promise(3, "Throws `IllegalArgumentException` if another argument is out of range");
        Twins.argument("spool(1, 0, 1)", Rings::busy, y -> y.spool(1, 0, 1));
        Twins.argument("spool(1, 10, 1)", Rings::busy, y -> y.spool(1, 10, 1));
        Twins.argument("spool(1, 1, -1)", Rings::busy, y -> y.spool(1, 1, -1));
        Twins.argument("spool(1, 1, 10000)", Rings::busy, y -> y.spool(1, 1, 10000));
        for (int far : FAR) {
            Twins.argument("spool(1, " + far + ", 1)", Rings::busy, y -> y.spool(1, far, 1));
            Twins.argument("spool(1, 1, " + far + ")", Rings::busy, y -> y.spool(1, 1, far));
        }
        Twins.argument("spool(2, 10, 1) of the one of now, ahead of the third exception", Rings::busy,
            y -> y.spool(2, 10, 1));
        Twins.argument("spool(2, 1, -1) of the one of now, ahead of the third exception", Rings::busy,
            y -> y.spool(2, 1, -1));
        Twins.argument("spool(0, 0, 1) of one that lies, ahead of the third exception", Rings::busy,
            y -> y.spool(0, 0, 1));
    }

    private void spoolInUse() {
        doc.promise(3, "Throws `IllegalStateException` if it is the one of now, or a chord of it lies");
        Twins.state("spool(0, 1, 1), the one of now without a chord", Rings::fresh, y -> y.spool(0, 1, 1));
        Twins.state("spool(2, 1, 1), the one of now", Rings::busy, y -> y.spool(2, 1, 1));
        Twins.state("spool(0, 1, 1), that lies", Rings::busy, y -> y.spool(0, 1, 1));
        Twins.state("spool(0, 1, 2000), that lies, as it was", Rings::busy, y -> y.spool(0, 1, 2000));
        Twins.state("spool(1, 1, 1), of which all 200 chords are", Rings.around(200).andThen(y -> y.knot(0)),
            y -> y.spool(1, 1, 1));
        RingThreads z = Twins.made(y -> {
            y.wind(6);
            y.knot(1);
            y.wind(0);
            y.wind(3);
            y.knot(2);
        });
        Check.equal("the first chord alone is of the spool", 1, z.spoolOf(0, 3));
        Check.equal("its state is thrown", IllegalStateException.class, thrownBySpool(z, 0));
        doc.promise(3, "Changes a spool that is not the one of now, and of which no chord lies.");
        RingThreads x = Twins.made(y -> {
            y.wind(6);
            y.unwind();
            y.knot(1);
        });
        Check.equal("spool(0, 4, 0), of which no chord lies any more", 2000, x.spool(0, 4, 0));
        Check.equal("shade", 4, x.spoolOf(0, 0));
        Check.equal("a refused chord does not lie", 2000, Twins.made(y -> {
            y.wind(0);
            y.knot(1);
        }).spool(0, 1, 1));
        Check.equal("chords that are taken off by nails", 2000, Twins.made(y -> {
            y.wind(6);
            y.knot(1);
            y.nails(4);
        }).spool(0, 1, 1));
    }

    private static Class<?> thrownBySpool(RingThreads ring, int spool) {
        try {
            ring.spool(spool, 1, 1);
            return null;
        } catch (RuntimeException e) {
            return e.getClass();
        }
    }

    private void knot() {
        doc.promise(4, "- `spool`: 0 to 2");
        RingThreads x = new RingThreads();
        Check.equal("knot(2)", 1, x.knot(2));
        Check.equal("knot(0)", 2, x.knot(0));
        doc.promise(4, "Takes another spool: a knot.");
        Check.equal("the spool of now", 0, x.count(2));
        Check.equal("knot(1)", 3, x.knot(1));
        Check.equal("the spool of now", 1, x.count(2));
        doc.promise(4, "Returns how many knots there are so far, with this one.");
        RingThreads z = new RingThreads();
        for (int knot = 1; knot <= 500; knot++) {
            Check.equal("a knot", knot, z.knot(knot % 3));
        }
        doc.promise(4, "Undoable.");
        Twins.undoable("knot(1)", Rings::busy, y -> y.knot(1));
        Twins.undoable("the first knot", Rings::fresh, y -> y.knot(2));
        doc.promise(4, "Throws `IndexOutOfBoundsException` if there is no such spool");
        Twins.outside("knot(3)", Rings::busy, y -> y.knot(3));
        Twins.outside("knot(-1)", Rings::busy, y -> y.knot(-1));
        for (int far : FAR) {
            Twins.outside("knot(" + far + ")", Rings::busy, y -> y.knot(far));
        }
        doc.promise(4, "Throws `IllegalStateException` if it is the one of now");
        Twins.state("knot(0) at first", Rings::fresh, y -> y.knot(0));
        Twins.state("knot(2)", Rings::busy, y -> y.knot(2));
        Twins.state("knot(0) behind unwind, by which it is the one of now", y -> {
            y.wind(6);
            y.knot(1);
            y.unwind();
        }, y -> y.knot(0));
    }

    private void settings() {
        doc.named("Settings", "0: nails apart, 1 to 6, at first 1");
        edges(0, 1, 6);
        doc.named("Settings", "1: times that a chord can lie, 1 to 9, at first 1");
        edges(1, 1, 9);
        doc.named("Settings", "2: darkness of a grey, 1 to 9, at first 2");
        edges(2, 2, 9);
    }

    private static void edges(int setting, int first, int most) {
        RingThreads x = new RingThreads();
        Check.equal("at first", first, x.setting(setting));
        Check.equal("set to the most", first, x.set(setting, most));
        Check.equal("the most", most, x.setting(setting));
        Check.equal("set to the least", most, x.set(setting, 1));
        Check.equal("the least", 1, x.setting(setting));
        Twins.argument("set above the most", Rings::busy, y -> y.set(setting, most + 1));
        Twins.argument("set below the least", Rings::busy, y -> y.set(setting, 0));
    }

    private void set() {
        doc.promise(5, "- `setting`: 0 to 2");
        RingThreads x = new RingThreads();
        Check.equal("set(0, 2)", 1, x.set(0, 2));
        Check.equal("set(2, 3)", 2, x.set(2, 3));
        doc.promise(5, "- `value`: the new value");
        Check.equal("setting(0)", 2, x.setting(0));
        Check.equal("setting(1), another one", 1, x.setting(1));
        Check.equal("setting(2)", 3, x.setting(2));
        doc.promise(5, "Changes a setting.");
        Check.equal("a setting changes what is refused", 2, x.whyNot(1));
        doc.promise(5, "Returns the previous value.");
        Check.equal("set(1, 9)", 1, x.set(1, 9));
        Check.equal("set(1, 9) again", 9, x.set(1, 9));
        doc.promise(5, "Undoable.");
        Twins.undoable("set(0, 6)", Rings::busy, y -> y.set(0, 6));
        Twins.undoable("set(1, 9)", Rings::busy, y -> y.set(1, 9));
        Twins.undoable("set(2, 1)", Rings::busy, y -> y.set(2, 1));
        Twins.undoable("set(2, 2), as it was", Rings::busy, y -> y.set(2, 2));
        doc.promise(5, "Throws `IndexOutOfBoundsException` if there is no such setting");
        Twins.outside("set(3, 1)", Rings::busy, y -> y.set(3, 1));
        Twins.outside("set(-1, 1)", Rings::busy, y -> y.set(-1, 1));
        for (int far : FAR) {
            Twins.outside("set(" + far + ", 1)", Rings::busy, y -> y.set(far, 1));
        }
        Twins.outside("set(3, 0), ahead of the other exception", Rings::busy, y -> y.set(3, 0));
        Twins.outside("set(-1, 10), ahead of the other exception", Rings::busy, y -> y.set(-1, 10));
        doc.promise(5, "Throws `IllegalArgumentException` if value is out of range");
        int[] most = {6, 9, 9};
        for (int setting = 0; setting < 3; setting++) {
            int i = setting;
            Twins.argument("set(" + i + ", " + (most[i] + 1) + ")", Rings::busy, y -> y.set(i, most[i] + 1));
            Twins.argument("set(" + i + ", 0)", Rings::busy, y -> y.set(i, 0));
            Twins.argument("set(" + i + ", -1)", Rings::busy, y -> y.set(i, -1));
            for (int far : FAR) {
                Twins.argument("set(" + i + ", " + far + ")", Rings::busy, y -> y.set(i, far));
            }
        }
    }

    private void spoolOf() {
        doc.promise(19, "- `spool`: 0 to 2");
        RingThreads x = Twins.made(Rings.around(200));
        Check.equal("spoolOf(0, 0)", 1, x.spoolOf(0, 0));
        Check.equal("spoolOf(2, 0)", 3, x.spoolOf(2, 0));
        doc.promise(19,
            "- `what`: 0: its shade; 1: the thread that is left; 2: the thread of it that lies; 3: chords of it "
            + "that lie; 4: 1 if it is the one");
        int round = 0;
        for (int nail = 0; nail < 24; nail++) {
            round += x.chord(nail, (nail + 1) % 24, 0);
        }
        int laid = 8 * round;
        for (int nail = 0; nail < 8; nail++) {
            laid += x.chord(nail, nail + 1, 0);
        }
        int[] due = {1, 9999 - laid, laid, 200, 1};
        int[] none = {3, 2000, 0, 0, 0};
        for (int what = 0; what <= 4; what++) {
            Check.equal("spoolOf(1, " + what + ") of 200 chords", due[what], x.spoolOf(1, what));
            Check.equal("spoolOf(2, " + what + ") of no chord", none[what], x.spoolOf(2, what));
        }
        doc.promise(19, "Returns a property of a spool.");
        RingThreads y = Twins.made(Rings.thread(9, 120).andThen(z -> z.wind(6)));
        Check.equal("spoolOf(1, 1) of an empty spool", 0, y.spoolOf(1, 1));
        doc.promise(19, "Returns the property.");
        Check.equal("spoolOf(1, 2) of an empty spool", 120, y.spoolOf(1, 2));
        doc.promise(19, "Throws `IndexOutOfBoundsException` if there is no such spool");
        Twins.outside("spoolOf(3, 0)", Rings::busy, z -> z.spoolOf(3, 0));
        Twins.outside("spoolOf(-1, 0)", Rings::busy, z -> z.spoolOf(-1, 0));
        for (int far : FAR) {
            Twins.outside("spoolOf(" + far + ", 0)", Rings::busy, z -> z.spoolOf(far, 0));
        }
        Twins.outside("spoolOf(3, 5), ahead of the other exception", Rings::busy, z -> z.spoolOf(3, 5));
        doc.promise(19, "Throws `IllegalArgumentException` if what is not 0 to 4");
        Twins.argument("spoolOf(2, 5)", Rings::busy, z -> z.spoolOf(2, 5));
        Twins.argument("spoolOf(0, -1)", Rings::busy, z -> z.spoolOf(0, -1));
        for (int far : FAR) {
            Twins.argument("spoolOf(0, " + far + ")", Rings::busy, z -> z.spoolOf(0, far));
        }
    }

    private void setting() {
        doc.promise(24, "- `setting`: 0 to 2");
        RingThreads x = new RingThreads();
        Check.equal("setting(0)", 1, x.setting(0));
        Check.equal("setting(2)", 2, x.setting(2));
        doc.promise(24, "Returns a setting.");
        x.set(1, 9);
        Check.equal("setting(1)", 9, x.setting(1));
        doc.promise(24, "Returns its value.");
        x.set(1, 1);
        Check.equal("setting(1)", 1, x.setting(1));
        doc.promise(24, "Throws `IndexOutOfBoundsException` if there is no such setting");
        Twins.outside("setting(3)", Rings::busy, z -> z.setting(3));
        Twins.outside("setting(-1)", Rings::busy, z -> z.setting(-1));
        for (int far : FAR) {
            Twins.outside("setting(" + far + ")", Rings::busy, z -> z.setting(far));
        }
    }
}
