import java.util.function.Consumer;

/**
 * Two rings that came to one state by two ways: all that can be seen of them must be the same from there on. Each
 * is made anew for each look behind which it is used up, since an object answers 512 calls only.
 */
final class Twins {
    private static final int SEEN_BY_DIGEST = 10;
    private static final int LOOKED_AT = 40;

    private final String what;
    private final Consumer<RingThreads> one;
    private final Consumer<RingThreads> other;
    private RingThreads x;
    private RingThreads y;

    private Twins(String what, Consumer<RingThreads> one, Consumer<RingThreads> other) {
        this.what = what;
        this.one = one;
        this.other = other;
        begin();
    }

    static RingThreads made(Consumer<RingThreads> recipe) {
        RingThreads ring = new RingThreads();
        recipe.accept(ring);
        return ring;
    }

    static void alike(String what, Consumer<RingThreads> one, Consumer<RingThreads> other) {
        Twins twins = new Twins(what, one, other);
        twins.chordsAlike();
        twins.savedStatesAlike();
        twins.slotsAlike();
    }

    /** The call throws just this kind of exception, none below it, and changes nothing at all. */
    static void refused(String what, Consumer<RingThreads> recipe, Class<?> kind, Consumer<RingThreads> call) {
        Check.equal(what + " throws", kind, thrownBy(made(recipe), call));
        alike(what + " changes nothing", recipe.andThen(ring -> thrownBy(ring, call)), recipe);
    }

    static void outside(String what, Consumer<RingThreads> recipe, Consumer<RingThreads> call) {
        refused(what, recipe, IndexOutOfBoundsException.class, call);
    }

    static void argument(String what, Consumer<RingThreads> recipe, Consumer<RingThreads> call) {
        refused(what, recipe, IllegalArgumentException.class, call);
    }

    static void state(String what, Consumer<RingThreads> recipe, Consumer<RingThreads> call) {
        refused(what, recipe, IllegalStateException.class, call);
    }

    /** The call saves one state, and undo brings back all that was ahead of it; at most 5 may be saved ahead. */
    static void undoable(String what, Consumer<RingThreads> recipe, Consumer<RingThreads> call) {
        RingThreads ring = made(recipe);
        int saved = ring.count(12);
        call.accept(ring);
        Check.equal("saved states behind " + what, saved + 1, ring.count(12));
        Check.equal("undo() of " + what, saved, ring.undo());
        alike("undo of " + what, recipe.andThen(call).andThen(RingThreads::undo), recipe);
    }

    private static Class<?> thrownBy(RingThreads ring, Consumer<RingThreads> call) {
        try {
            call.accept(ring);
            return null;
        } catch (RuntimeException e) {
            return e.getClass();
        }
    }

    private void begin() {
        x = made(one);
        y = made(other);
    }

    private void digestsAlike(String where) {
        Check.equal(what + ": the digest" + where, y.digest(), x.digest());
    }

    private void chordsAlike() {
        digestsAlike("");
        for (int ago = SEEN_BY_DIGEST; ago < Math.min(y.count(3), LOOKED_AT); ago++) {
            for (int part = 0; part <= 2; part++) {
                Check.equal(what + ": wound(" + ago + ", " + part + ")", y.wound(ago, part), x.wound(ago, part));
            }
        }
        Check.equal(what + ": firstError()", y.firstError(), x.firstError());
    }

    private void savedStatesAlike() {
        int saved = y.count(12);
        for (int left = saved - 1; left >= 0; left--) {
            Check.equal(what + ": undo()", y.undo(), x.undo());
            digestsAlike(" behind undo to " + left + " saved states");
        }
        Check.equal(what + ": undo() of none", thrownBy(y, RingThreads::undo), thrownBy(x, RingThreads::undo));
    }

    private void slotsAlike() {
        begin();
        for (int slot = 0; slot <= 1; slot++) {
            int from = slot;
            Class<?> due = thrownBy(y, ring -> ring.goBack(from));
            Check.equal(what + ": goBack(" + slot + ") throws", due, thrownBy(x, ring -> ring.goBack(from)));
            digestsAlike(" behind goBack(" + slot + ")");
        }
    }
}
