import java.util.List;
import java.util.function.Consumer;

/** Promises 15 to 17: snapshots and undo. */
final class SnapshotTest {
    private SnapshotTest() {
    }

    public static void main(String[] args) {
        snapshots();
        wrongSlots();
        allButTheBuffer();
        undone();
        chordsUndone();
        sixStates();
        eachUndoable();
        notUndoable();
        Check.end();
    }

    private static void snapshots() {
        RingThreads x = new RingThreads();
        x.wind(6);
        Check.equal("keep(0)", 1, x.keep(0));
        x.wind(3);
        x.wind(3);
        Check.equal("keep(1)", 2, x.keep(1));
        Check.equal("keep is not undoable", 3, x.count(12));
        Check.equal("goBack(0)", 1, x.goBack(0));
        Check.equal("at", 6, x.count(1));
        Check.equal("refused so far", 0, x.count(5));
        Check.equal("goBack(1)", 2, x.goBack(1));
        Check.equal("refused so far", 1, x.count(5));
        Check.equal("goBack is undoable", 5, x.count(12));
        x.undo();
        Check.equal("chords behind undo", 1, x.count(3));
        Check.equal("the snapshot stays", 2, x.goBack(1));
        x.nails(4);
        Check.equal("keep(1) in place of the other", 0, x.keep(1));
        x.nails(24);
        x.goBack(1);
        Check.equal("nails of the snapshot", 4, x.count(0));
        x.goBack(0);
        Check.equal("the chord of the first one: from", 0, x.wound(0, 0));
        Check.equal("the chord of the first one: to", 6, x.wound(0, 1));
        x.wind(3);
        Check.equal("a snapshot does not change with the ring", 1, x.goBack(0));
        Check.equal("nails of the first one", 12, x.count(0));
    }

    private static void wrongSlots() {
        RingThreads x = new RingThreads();
        x.keep(1);
        Check.argument("keep(2)", x, () -> x.keep(2));
        Check.argument("keep(-1)", x, () -> x.keep(-1));
        Check.argument("goBack(2)", x, () -> x.goBack(2));
        Check.argument("goBack(-1)", x, () -> x.goBack(-1));
        Check.state("goBack(0)", x, () -> x.goBack(0));
        Check.equal("goBack(1)", 0, x.goBack(1));
    }

    private static void allButTheBuffer() {
        RingThreads x = new RingThreads();
        Check.type(x, "a1");
        x.keep(0);
        x.want(0, 0, 5);
        Check.type(x, "23");
        x.goBack(0);
        Check.equal("the buffer stays", 5, x.append('4'));
        x.undo();
        Check.equal("the buffer stays behind undo", 6, x.append('5'));
        x.keep(1);
        x.undo();
        Check.equal("slots stay behind undo", 0, x.goBack(1));
        Check.equal("grey of the slot", 5, x.square(0, 0, 0));
    }

    private static void undone() {
        RingThreads x = new RingThreads();
        Check.state("undo()", x, () -> x.undo());
        x.wind(6);
        x.knot(2);
        x.want(1, 1, 1);
        long ahead = x.digest();
        x.wind(0);
        Check.equal("undo()", 3, x.undo());
        Check.equal("all is as ahead", ahead, x.digest());
        Check.equal("undo()", 2, x.undo());
        Check.equal("undo()", 1, x.undo());
        Check.equal("knots so far", 0, x.count(6));
        Check.equal("undo()", 0, x.undo());
        Check.equal("all is new", new RingThreads().digest(), x.digest());
        Check.state("undo() again", x, () -> x.undo());
    }

    private static void chordsUndone() {
        RingThreads x = new RingThreads();
        x.wind(6);
        x.knot(2);
        x.wind(1);
        x.knot(1);
        x.keep(0);
        x.wind(8);
        x.nails(24);
        x.wind(13);
        x.undo();
        x.undo();
        String due = "1 8 1, 6 1 2, 0 6 0, ";
        Check.equal("chords behind undo of nails", due, chords(x));
        x.nails(8);
        x.wind(3);
        x.goBack(0);
        Check.equal("chords behind goBack", due.substring(7), chords(x));
        Check.equal("unwind()", 6, x.unwind());
        Check.equal("its spool", 2, x.count(2));
    }

    private static String chords(RingThreads x) {
        StringBuilder text = new StringBuilder();
        for (int ago = 0; ago < x.count(3); ago++) {
            text.append(x.wound(ago, 0)).append(' ').append(x.wound(ago, 1)).append(' ').append(x.wound(ago, 2));
            text.append(", ");
        }
        return text.toString();
    }

    private static void sixStates() {
        RingThreads x = new RingThreads();
        for (int grey = 1; grey <= 9; grey++) {
            x.want(0, 0, grey);
            Check.equal("saved states", Math.min(grey, 6), x.count(12));
        }
        for (int left = 5; left >= 0; left--) {
            Check.equal("undo()", left, x.undo());
            Check.equal("grey", 3 + left, x.square(0, 0, 0));
        }
        Check.state("undo() of the oldest that was dropped", x, () -> x.undo());
    }

    private static void eachUndoable() {
        List<Consumer<RingThreads>> calls = List.of(
            x -> x.nails(8), x -> x.nails(12), x -> x.spool(1, 1, 1), x -> x.knot(1), x -> x.set(0, 2), x -> x.wind(4),
            x -> x.wind(6), x -> x.unwind(), x -> x.windBest(3), x -> x.want(1, 2, 3), x -> x.want(3, 3, 3),
            x -> x.turnFace(0), x -> x.turnFace(1), x -> x.turnFace(2), x -> Check.load(x, "a5"), x -> x.goBack(0));
        for (int i = 0; i < calls.size(); i++) {
            RingThreads x = new RingThreads();
            x.keep(0);
            x.wind(6);
            x.want(3, 3, 3);
            long ahead = x.digest();
            calls.get(i).accept(x);
            Check.equal("saved states behind call " + i, 3, x.count(12));
            x.undo();
            Check.equal("the digest behind undo of call " + i, ahead, x.digest());
        }
    }

    /** What is appended or cleared, kept, undone or looked at saves no state. */
    private static void notUndoable() {
        RingThreads x = new RingThreads();
        x.wind(6);
        Check.type(x, "ab");
        x.firstError();
        x.clearBuffer();
        x.keep(0);
        x.best();
        x.bestTwo();
        x.bestSpool();
        x.gain(3);
        x.whyNot(3);
        x.count(8);
        x.digest();
        Check.equal("saved states", 1, x.count(12));
        Check.equal("the undo that is left is that of wind", 0, x.undo());
        Check.equal("chords", 0, x.count(3));
    }
}
