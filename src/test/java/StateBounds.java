import java.util.List;
import java.util.function.Consumer;

/** The bounds of snapshots and undo: "Snapshots, undo", promises 15, 16 and 17. */
final class StateBounds {
    private static final String THREE_SPOOLS = "8 4 0, 1 8 1, 6 1 2, 0 6 0";
    private static final int[] NO_SLOTS = {2, -1, 3, Integer.MIN_VALUE, Integer.MAX_VALUE};

    private final Sentences doc;

    private StateBounds(Sentences doc) {
        this.doc = doc;
    }

    static void run(Sentences doc) {
        StateBounds bounds = new StateBounds(doc);
        doc.run(
            bounds::twoSlots, bounds::allOfASnapshot, bounds::notOfASnapshot, bounds::savedByEach, bounds::notSaved,
            bounds::allOfASavedState, bounds::sixStates, bounds::dropped, bounds::keep, bounds::goBack,
            bounds::undo);
    }

    private void twoSlots() {
        doc.named("Snapshots, undo", "There are two slots");
        RingThreads x = new RingThreads();
        x.keep(0);
        x.wind(6);
        x.keep(1);
        x.wind(3);
        Check.equal("goBack(0)", 0, x.goBack(0));
        Check.equal("goBack(1)", 1, x.goBack(1));
        Twins.argument("keep(2)", Rings::busy, y -> y.keep(2));
        Twins.state("goBack(1), of which the other one is full", y -> y.keep(0), y -> y.goBack(1));
        Twins.state("goBack(0), of which the other one is full", y -> y.keep(1), y -> y.goBack(0));
    }

    /** Changes all that a snapshot holds, by ten calls of which each saves a state. */
    private static void changeAll(RingThreads x) {
        x.nails(8);
        x.set(0, 2);
        x.set(1, 3);
        x.set(2, 7);
        x.spool(1, 8, 777);
        x.knot(1);
        x.wind(4);
        x.wind(4);
        x.turnFace(2);
        x.want(0, 0, 3);
    }

    private void allOfASnapshot() {
        doc.named("Snapshots, undo", "a snapshot is all");
        Consumer<RingThreads> kept = x -> {
            Rings.busy(x);
            x.keep(0);
        };
        // Both have 6 saved states then, so that their digests can be the same.
        long due = Twins.made(kept.andThen(x -> x.set(2, 2))).digest();
        RingThreads x = Twins.made(kept.andThen(StateBounds::changeAll));
        Check.isTrue("all is changed", x.digest() != due);
        Check.equal("goBack(0)", 3, x.goBack(0));
        Check.equal("the digest of the snapshot", due, x.digest());
        x.keep(1);
        changeAll(x);
        x.goBack(1);
        Check.equal("the digest of the snapshot of a snapshot", due, x.digest());
        Consumer<RingThreads> chords = y -> {
            threeSpools(y);
            y.keep(1);
            otherChords(y);
            y.goBack(1);
        };
        Check.equal("chords of three spools", THREE_SPOOLS, chordsOf(Twins.made(chords)));
        RingThreads full = Twins.made(Rings.around(200).andThen(y -> y.keep(1)));
        otherChords(full);
        Check.equal("goBack(1) to 200 chords", 200, full.goBack(1));
        aroundAgain(full);
    }

    private static void threeSpools(RingThreads x) {
        x.wind(6);
        x.knot(2);
        x.wind(1);
        x.knot(1);
        x.wind(8);
        x.knot(0);
        x.wind(4);
    }

    /** Writes over what was held of chords, by 5 calls of which each saves a state. */
    private static void otherChords(RingThreads x) {
        x.nails(24);
        x.wind(21);
        x.knot(x.count(2) == 0 ? 1 : 0);
        x.wind(13);
        x.wind(3);
    }

    private static String chordsOf(RingThreads x) {
        StringBuilder chords = new StringBuilder();
        for (int ago = 0; ago < x.count(3); ago++) {
            chords.append(x.wound(ago, 0)).append(' ').append(x.wound(ago, 1)).append(' ').append(x.wound(ago, 2));
            chords.append(ago + 1 < x.count(3) ? ", " : "");
        }
        return chords.toString();
    }

    private static void aroundAgain(RingThreads x) {
        for (int ago = 0; ago < 200; ago++) {
            Check.equal("the nail to which the chord " + ago + " leads", (200 - ago) % 24, x.wound(ago, 1));
        }
        for (int ago = 0; ago < 50; ago++) {
            Check.equal("the nail of the chord " + (199 - ago), ago % 24, x.wound(199 - ago, 0));
        }
    }

    private void notOfASnapshot() {
        doc.named("Snapshots, undo", "but the buffer, the slots and the saved states.");
        RingThreads x = Twins.made(Rings.typed("a1"));
        x.keep(0);
        Check.type(x, "23");
        x.want(5, 5, 5);
        x.keep(1);
        x.goBack(0);
        Check.equal("the length of the buffer is not that of the snapshot", 4, x.firstError());
        Check.equal("saved states are not those of the snapshot", 2, x.count(12));
        x.goBack(1);
        Check.equal("the other slot, that was empty when the first one was taken", 5, x.square(5, 5, 0));
        RingThreads y = Twins.made(z -> {
            Rings.busy(z);
            z.keep(0);
            for (int left = 5; left > 0; left--) {
                z.undo();
            }
        });
        Check.equal("saved states behind undo of all", 0, y.count(12));
        y.goBack(0);
        Check.equal("saved states then, where the snapshot was taken with 5", 1, y.count(12));
        Check.equal("undo() of goBack", 0, y.undo());
        Check.equal("the ring is as ahead of goBack", 12, y.count(0));
    }

    private void savedByEach() {
        doc.named("Snapshots, undo",
            "Each method that is marked \"undoable\" and does not throw an exception saves the state from before it");
        Consumer<RingThreads> busy = x -> {
            Rings.busy(x);
            x.clearBuffer();
        };
        List<Consumer<RingThreads>> calls = List.of(
            x -> x.nails(6), x -> x.spool(1, 9, 1), x -> x.knot(1), x -> x.set(2, 9), x -> x.wind(20), x -> x.unwind(),
            x -> x.windBest(50), x -> x.want(9, 9, 9), x -> x.turnFace(0), x -> Check.load(x, "a1"), x -> x.goBack(0));
        for (int i = 0; i < calls.size(); i++) {
            Twins.undoable("the change " + i, busy, calls.get(i));
        }
        doc.named("Snapshots, undo", "(also if it changes nothing, or is refused)");
        List<Consumer<RingThreads>> none = List.of(
            x -> x.nails(12), x -> x.spool(1, 2, 2000), x -> x.set(2, 2), x -> x.wind(0), x -> x.windBest(1),
            x -> x.want(0, 0, 0), x -> x.turnFace(0), x -> x.turnFace(1), x -> Check.load(x, "a0"), x -> x.goBack(1));
        for (int i = 0; i < none.size(); i++) {
            Twins.undoable("that changes nothing " + i, x -> x.keep(1), none.get(i));
        }
    }

    private void notSaved() {
        doc.named("Snapshots, undo", "that is marked \"undoable\"");
        List<Consumer<RingThreads>> calls = List.of(
            x -> x.append('a'), x -> x.clearBuffer(), x -> x.firstError(), x -> x.keep(0), x -> x.keep(1),
            x -> x.nailOf(0, 0), x -> x.spoolOf(0, 0), x -> x.chord(0, 1, 0), x -> x.wound(0, 0),
            x -> x.square(0, 0, 0), x -> x.count(8), x -> x.setting(0), x -> x.whyNot(0), x -> x.gain(1),
            x -> x.best(), x -> x.bestTwo(), x -> x.palest(), x -> x.bestSpool(), x -> x.shownShare(),
            x -> x.digest());
        for (int i = 0; i < calls.size(); i++) {
            RingThreads x = Twins.made(Rings::busy);
            calls.get(i).accept(x);
            Check.equal("saved states behind the call " + i, 5, x.count(12));
            Check.equal("undo() behind the call " + i, 4, x.undo());
            Check.equal("it is the refused chord that is undone behind the call " + i, 0, x.count(5));
        }
    }

    private void allOfASavedState() {
        doc.named("Snapshots, undo", "all, also what is counted so far");
        RingThreads x = new RingThreads();
        x.wind(6);
        x.wind(6);
        x.knot(1);
        Check.equal("undo() of knot", 2, x.undo());
        Check.equal("knots so far", 0, x.count(6));
        Check.equal("undo() of a refused chord", 1, x.undo());
        Check.equal("refused so far", 0, x.count(5));
        Check.equal("undo() of a chord", 0, x.undo());
        Check.equal("wound so far", 0, x.count(4));
        doc.named("Snapshots, undo", "but the buffer, the slots and the saved states");
        RingThreads y = new RingThreads();
        y.wind(6);
        Check.type(y, "a1");
        y.keep(0);
        y.undo();
        Check.equal("the buffer is not that of the saved state", 2, y.firstError());
        Check.equal("the slot is not that of the saved state", 1, y.goBack(0));
    }

    private static void wantEach(RingThreads x, int... greys) {
        for (int grey : greys) {
            x.want(0, 0, grey);
        }
    }

    private static void undoTo(RingThreads x, int... greys) {
        for (int i = 0; i < greys.length; i++) {
            Check.equal("undo()", greys.length - 1 - i, x.undo());
            Check.equal("the grey behind undo", greys[i], x.square(0, 0, 0));
        }
        Check.state("undo() of a state that was dropped", x, () -> x.undo());
    }

    private void sixStates() {
        doc.named("Snapshots, undo", "At most 6 states are saved");
        for (int calls = 0; calls <= 8; calls++) {
            RingThreads x = new RingThreads();
            for (int i = 0; i < calls; i++) {
                x.want(0, 0, i);
            }
            Check.equal("saved states behind " + calls + " calls", Math.min(calls, 6), x.count(12));
        }
    }

    private void dropped() {
        doc.named("Snapshots, undo", "the oldest one is dropped first");
        RingThreads six = new RingThreads();
        wantEach(six, 1, 2, 3, 4, 5, 6);
        undoTo(six, 5, 4, 3, 2, 1, 0);
        RingThreads seven = new RingThreads();
        wantEach(seven, 1, 2, 3, 4, 5, 6, 7);
        undoTo(seven, 6, 5, 4, 3, 2, 1);
        RingThreads mixed = new RingThreads();
        wantEach(mixed, 1, 2, 3, 4, 5, 6);
        mixed.undo();
        mixed.undo();
        mixed.undo();
        wantEach(mixed, 7, 8, 9, 1);
        undoTo(mixed, 9, 8, 7, 3, 2, 1);
        wantEach(mixed, 5, 6);
        undoTo(mixed, 5, 1);
        RingThreads many = new RingThreads();
        for (int i = 0; i < 100; i++) {
            many.want(0, 0, i % 10);
        }
        undoTo(many, 8, 7, 6, 5, 4, 3);
    }

    private void keep() {
        doc.promise(15, "- `slot`: 0 or 1");
        RingThreads x = new RingThreads();
        Check.equal("keep(0)", 0, x.keep(0));
        Check.equal("keep(1)", 0, x.keep(1));
        doc.promise(15, "Takes a snapshot, in place of the one in the slot.");
        x.wind(6);
        Check.equal("keep(0) again", 1, x.keep(0));
        x.wind(3);
        Check.equal("goBack(0) to the second one", 1, x.goBack(0));
        Check.equal("goBack(1), the first one", 0, x.goBack(1));
        doc.promise(15, "Returns how many chords lie.");
        Check.equal("keep(1) of 200", 200, Twins.made(Rings.around(200)).keep(1));
        doc.promise(15, "Throws `IllegalArgumentException` if slot is out of range");
        for (int slot : NO_SLOTS) {
            Twins.argument("keep(" + slot + ")", Rings::busy, y -> y.keep(slot));
        }
    }

    private void goBack() {
        doc.promise(16, "- `slot`: 0 or 1");
        for (int slot = 0; slot <= 1; slot++) {
            int i = slot;
            Check.equal("goBack(" + i + ")", 1, Twins.made(x -> {
                x.wind(6);
                x.keep(i);
                x.wind(3);
            }).goBack(i));
        }
        doc.promise(16, "Goes back to a snapshot, which stays.");
        RingThreads x = new RingThreads();
        x.wind(6);
        x.keep(0);
        for (int round = 1; round <= 3; round++) {
            x.wind(3);
            x.knot(2);
            x.wind(9);
            Check.equal("goBack(0)", 1, x.goBack(0));
            Check.equal("the nail of now", 6, x.count(1));
            Check.equal("the spool of now", 0, x.count(2));
        }
        doc.promise(16, "Returns how many chords lie then.");
        RingThreads y = Twins.made(z -> z.keep(1));
        y.wind(6);
        Check.equal("goBack(1) to no chord", 0, y.goBack(1));
        doc.promise(16, "Undoable.");
        Twins.undoable("goBack(0)", Rings::busy, z -> z.goBack(0));
        Twins.undoable("goBack(1)", Rings::busy, z -> z.goBack(1));
        Twins.undoable("goBack(0), where nothing is changed since", z -> z.keep(0), z -> z.goBack(0));
        doc.promise(16, "Throws `IllegalArgumentException` if slot is out of range");
        for (int slot : NO_SLOTS) {
            Twins.argument("goBack(" + slot + ")", Rings::busy, z -> z.goBack(slot));
            Twins.argument("goBack(" + slot + ") of empty slots", Rings::fresh, z -> z.goBack(slot));
        }
        doc.promise(16, "Throws `IllegalStateException` if there is no snapshot in it");
        Twins.state("goBack(0)", Rings.around(3), z -> z.goBack(0));
        Twins.state("goBack(1)", Rings.around(3), z -> z.goBack(1));
        Twins.state("goBack(1), of which the other one is full", z -> z.keep(0), z -> z.goBack(1));
    }

    private void undo() {
        doc.promise(17, "Returns how many saved states are left.");
        RingThreads x = Twins.made(Rings.around(3));
        for (int left = 5; left >= 0; left--) {
            Check.equal("undo()", left, x.undo());
        }
        doc.promise(17, "Restores the latest saved state, and drops it.");
        RingThreads y = new RingThreads();
        y.wind(6);
        y.wind(3);
        Check.equal("undo()", 1, y.undo());
        Check.equal("chords", 1, y.count(3));
        Check.equal("undo()", 0, y.undo());
        Check.equal("chords", 0, y.count(3));
        Consumer<RingThreads> undone = z -> {
            threeSpools(z);
            otherChords(z);
            for (int call = 1; call <= 5; call++) {
                z.undo();
            }
        };
        Check.equal("chords of three spools", THREE_SPOOLS, chordsOf(Twins.made(undone)));
        RingThreads full = Twins.made(Rings.around(200));
        otherChords(full);
        for (int left = 5; left >= 1; left--) {
            Check.equal("undo() to 200 chords", left, full.undo());
        }
        aroundAgain(full);
        doc.promise(17, "Throws `IllegalStateException` if there is none");
        Twins.state("undo() at first", Rings::fresh, z -> z.undo());
        Twins.state("undo() behind the only one", z -> {
            z.wind(6);
            z.undo();
        }, z -> z.undo());
        Twins.state("undo() behind keep, append and clearBuffer", z -> {
            z.keep(0);
            z.append('a');
            z.clearBuffer();
        }, z -> z.undo());
        Twins.state("undo() behind the sixth", Rings.around(200).andThen(z -> {
            for (int i = 0; i < 6; i++) {
                z.undo();
            }
        }), z -> z.undo());
    }
}
