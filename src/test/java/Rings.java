import java.util.function.Consumer;

/** Rings that tests begin with. */
final class Rings {
    static final String DARK_FACE = "a*9;b*9;c*9;d*9;e*9;f*9;g*9;h*9;i*9;j*9;k*9;l*9";

    private Rings() {
    }

    static void fresh(RingThreads x) {
    }

    /** With nails, greys, chords, knots, a refusal, both slots, a buffer and 5 saved states. */
    static void busy(RingThreads x) {
        x.nails(24);
        Check.load(x, "c*5;f*9;g*9;h123456789012");
        x.windBest(3);
        x.keep(0);
        x.knot(2);
        x.wind(x.count(1));
        x.keep(1);
        Check.type(x, "a12;b");
    }

    /** With 24 nails, of which each chord leads to the next one, by the spool 1. */
    static Consumer<RingThreads> around(int chords) {
        return x -> {
            x.nails(24);
            x.set(1, 9);
            x.spool(1, 1, 9999);
            x.knot(1);
            for (int i = 1; i <= chords; i++) {
                x.wind(i % 24);
            }
        };
    }

    /** The thread of now has this length. */
    static Consumer<RingThreads> thread(int shade, int length) {
        return x -> {
            x.spool(1, shade, length);
            x.knot(1);
        };
    }

    static Consumer<RingThreads> typed(String text) {
        return x -> Check.type(x, text);
    }

    /** Of 4 nails, with 1 as the darkness of a grey; these squares have this grey. */
    static Consumer<RingThreads> wanted(String squares, int grey) {
        return x -> {
            x.nails(4);
            x.set(2, 1);
            want(x, squares, grey);
        };
    }

    static void want(RingThreads x, String squares, int grey) {
        for (String square : squares.split(" ")) {
            String[] parts = square.split(",");
            x.want(Integer.parseInt(parts[0]), Integer.parseInt(parts[1]), grey);
        }
    }
}
