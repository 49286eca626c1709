import java.util.function.Consumer;

/** Promise 32: the digest, put together from the other calls. */
final class DigestTest {
    private static final int ENOUGH_CALLS = 150;

    private final Consumer<RingThreads> recipe;
    private RingThreads ring;
    private int asked;
    private long hash = 3301;

    private DigestTest(Consumer<RingThreads> recipe) {
        this.recipe = recipe;
        this.ring = made(recipe);
    }

    public static void main(String[] args) {
        compare("a new one", x -> { }, 0, "");
        for (int nails : new int[] {24, 12, 8, 6, 4}) {
            compare(nails + " nails", x -> {
                x.nails(nails);
                Check.load(x, "c123456;f*9;g*8;h987654321012");
                x.knot(2);
                x.windBest(12);
                x.wind(x.count(1));
            }, 0, "");
        }
        for (int many = 1; many <= 144; many++) {
            int squares = many;
            compare(many + " squares that lack", x -> wantOnes(x, squares), 0, "");
        }
        compare("slot 0", x -> x.keep(0), 1, "");
        compare("slot 1", x -> x.keep(1), 2, "");
        compare("both slots", x -> {
            x.keep(0);
            x.keep(1);
        }, 3, "");
        compare("a buffer", x -> Check.type(x, "a~!9;"), 0, "a~!9;");
        Check.end();
    }

    private static RingThreads made(Consumer<RingThreads> recipe) {
        RingThreads x = new RingThreads();
        recipe.accept(x);
        return x;
    }

    private static void wantOnes(RingThreads x, int many) {
        for (int square = 0; square < many; square++) {
            x.want(square % 12, square / 12, 1);
        }
    }

    /** The slots: 1 for the first one that has a snapshot, and 2 for the second one. */
    static void compare(String what, Consumer<RingThreads> recipe, int slots, String buffer) {
        long due = new DigestTest(recipe).due(slots, buffer);
        Check.equal("digest() of " + what, due, made(recipe).digest());
    }

    private void put(long value) {
        hash = 31 * hash + value;
    }

    /** A ring answers 512 calls; the values of a digest are more, so that they come from several rings alike. */
    private RingThreads ring() {
        asked++;
        if (asked % ENOUGH_CALLS == 0) {
            ring = made(recipe);
        }
        return ring;
    }

    private long due(int slots, String buffer) {
        for (int what = 0; what <= 12; what++) {
            put(ring().count(what));
        }
        for (int setting = 0; setting < 3; setting++) {
            put(ring().setting(setting));
        }
        int nails = ring().count(0);
        for (int nail = 0; nail < nails; nail++) {
            for (int what = 0; what <= 3; what++) {
                put(ring().nailOf(nail, what));
            }
            put(ring().whyNot(nail));
            put(ring().gain(nail));
        }
        for (int i = 0; i < 15; i++) {
            put(ring().spoolOf(i / 5, i % 5));
        }
        for (int i = 0; i < 30; i++) {
            put(ring().wound(i / 3, i % 3));
        }
        for (int i = 0; i < 576; i++) {
            put(ring().square(i / 4 % 12, i / 48, i % 4));
        }
        for (int i = 0; i < 6; i++) {
            put(ring().chord(0, 1 + i / 3, i % 3));
        }
        put(ring().best());
        put(ring().bestTwo());
        put(ring().palest());
        put(ring().bestSpool());
        put(Double.doubleToLongBits(ring().shownShare()));
        put(slots & 1);
        put(slots >> 1);
        put(buffer.length());
        for (int i = 0; i < buffer.length(); i++) {
            put(buffer.charAt(i));
        }
        return hash;
    }
}
