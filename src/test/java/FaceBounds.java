import java.util.function.Consumer;

/** The bounds of greys, lacks and the face: "The face", promises 9, 10, 22, 29 and 31. */
final class FaceBounds {
    private static final int[][] NO_SQUARES = {
        {12, 0}, {-1, 0}, {0, 12}, {0, -1}, {12, 12}, {-1, -1}, {11, 12}, {12, 11}, {-1, 12}, {12, -1},
        {Integer.MAX_VALUE, 0}, {Integer.MIN_VALUE, 0}, {0, Integer.MAX_VALUE}, {0, Integer.MIN_VALUE}
    };
    private static final int[][] CORNERS = {{0, 0}, {11, 0}, {11, 11}, {0, 11}};

    private final Sentences doc;

    private FaceBounds(Sentences doc) {
        this.doc = doc;
    }

    static void run(Sentences doc) {
        FaceBounds bounds = new FaceBounds(doc);
        doc.run(
            bounds::greys, bounds::lacks, bounds::misfit, bounds::want, bounds::wantRefused, bounds::turned,
            bounds::mirrored, bounds::opposite, bounds::turnFace, bounds::square, bounds::palest,
            bounds::shownShare);
    }

    private void greys() {
        doc.named("The face", "Each square has a wanted grey, 0 to 9, at first 0.");
        RingThreads x = new RingThreads();
        for (int[] corner : CORNERS) {
            Check.equal("the grey at first", 0, x.square(corner[0], corner[1], 0));
            Check.equal("want of the greatest grey", 0, x.want(corner[0], corner[1], 9));
            Check.equal("the grey", 9, x.square(corner[0], corner[1], 0));
            Check.equal("want of the least grey", 9, x.want(corner[0], corner[1], 0));
            Check.equal("the grey", 0, x.square(corner[0], corner[1], 0));
        }
    }

    private void lacks() {
        doc.named("The face", "Its aim is the grey times setting 2.");
        RingThreads x = Twins.made(y -> y.want(11, 11, 9));
        for (int darkness = 1; darkness <= 9; darkness++) {
            x.set(2, darkness);
            Check.equal("the lack of the darkest grey, " + darkness, 10000 + 9 * darkness, x.square(11, 11, 2));
            Check.equal("the lack of the palest grey, " + darkness, 10000, x.square(0, 0, 2));
        }
        doc.named("The face", "Its lack is the aim less its darkness; it can be below 0.");
        RingThreads z = Twins.made(y -> {
            y.set(2, 1);
            y.want(0, 6, 1);
            y.want(1, 6, 2);
            y.wind(6);
        });
        Check.equal("the lack of an aim above the darkness", 10001, z.square(1, 6, 2));
        Check.equal("the lack of an aim that is the darkness", 10000, z.square(0, 6, 2));
        Check.equal("the lack of an aim below the darkness", 9999, z.square(2, 6, 2));
        RingThreads dark = Twins.made(Rings.thread(9, 9999).andThen(y -> {
            y.set(1, 9);
            for (int i = 1; i <= 9; i++) {
                y.wind(6 * (i % 2));
            }
        }));
        Check.equal("the lack of nine dark threads", 10000 - 81, dark.square(5, 6, 2));
    }

    private void misfit() {
        doc.named("The face", "The misfit is the sum of all lacks, without sign.");
        RingThreads x = new RingThreads();
        Check.equal("the misfit of no lack", 0, x.count(7));
        x.want(11, 11, 1);
        x.wind(6);
        Check.equal("the misfit of a lack of 2 and twelve of -1", 14, x.count(7));
        RingThreads y = Twins.made(z -> {
            z.set(2, 9);
            z.turnFace(2);
        });
        Check.equal("the greatest misfit of a bare ring", 144 * 81, y.count(7));
    }

    private void want() {
        doc.promise(9, "- `x`: 0 to 11");
        RingThreads x = new RingThreads();
        Check.equal("want(0, 5, 1)", 0, x.want(0, 5, 1));
        Check.equal("want(11, 5, 2)", 0, x.want(11, 5, 2));
        doc.promise(9, "- `y`: 0 to 11");
        Check.equal("want(5, 0, 3)", 0, x.want(5, 0, 3));
        Check.equal("want(5, 11, 4)", 0, x.want(5, 11, 4));
        doc.promise(9, "Changes the wanted grey of a square.");
        int[] due = {1, 2, 3, 4};
        int[] got = {x.square(0, 5, 0), x.square(11, 5, 0), x.square(5, 0, 0), x.square(5, 11, 0)};
        for (int i = 0; i < 4; i++) {
            Check.equal("the grey of the square " + i, due[i], got[i]);
        }
        Check.equal("squares that lack", 4, x.count(9));
        doc.promise(9, "- `grey`: 0 to 9");
        Check.equal("want(0, 5, 9)", 1, x.want(0, 5, 9));
        Check.equal("want(0, 5, 0)", 9, x.want(0, 5, 0));
        doc.promise(9, "Returns the grey before.");
        Check.equal("want(0, 5, 0) again", 0, x.want(0, 5, 0));
        Check.equal("want(11, 5, 2), as it was", 2, x.want(11, 5, 2));
        doc.promise(9, "Undoable.");
        Twins.undoable("want(11, 11, 9)", Rings::busy, y -> y.want(11, 11, 9));
        Twins.undoable("want(0, 2, 5), as it was", Rings::busy, y -> y.want(0, 2, 5));
    }

    private void wantRefused() {
        doc.promise(9, "Throws `IndexOutOfBoundsException` if there is no such square");
        for (int[] square : NO_SQUARES) {
            String where = square[0] + ", " + square[1];
            Twins.outside("want(" + where + ", 1)", Rings::busy, x -> x.want(square[0], square[1], 1));
        }
        Twins.outside("want(12, 0, 10), ahead of the other exception", Rings::busy, x -> x.want(12, 0, 10));
        Twins.outside("want(0, -1, -1), ahead of the other exception", Rings::busy, x -> x.want(0, -1, -1));
        doc.promise(9, "Throws `IllegalArgumentException` if grey is out of range");
        for (int grey : new int[] {10, -1, Integer.MIN_VALUE, Integer.MAX_VALUE}) {
            Twins.argument("want(0, 0, " + grey + ")", Rings::busy, x -> x.want(0, 0, grey));
            Twins.argument("want(11, 11, " + grey + ")", Rings::busy, x -> x.want(11, 11, grey));
        }
    }

    /** Greys that tell one square from the other, but for the middle. */
    private static void corners(RingThreads x) {
        for (int i = 0; i < 4; i++) {
            x.want(CORNERS[i][0], CORNERS[i][1], i + 1);
        }
        x.want(1, 0, 5);
        x.want(5, 5, 6);
    }

    private void turned() {
        doc.promise(10, "0: turned by a quarter: the grey of (x, y) goes to (11 less y, x)");
        RingThreads x = Twins.made(FaceBounds::corners);
        x.turnFace(0);
        for (int i = 0; i < 4; i++) {
            int[] to = CORNERS[(i + 1) % 4];
            Check.equal("the corner " + i + " goes to the next one", i + 1, x.square(to[0], to[1], 0));
        }
        Check.equal("(1, 0) goes to (11, 1)", 5, x.square(11, 1, 0));
        Check.equal("(5, 5) goes to (6, 5)", 6, x.square(6, 5, 0));
        Check.equal("(1, 0) is pale then", 0, x.square(1, 0, 0));
        Check.equal("squares that lack", 6, x.count(9));
        for (int quarter = 2; quarter <= 4; quarter++) {
            x.turnFace(0);
        }
        for (int i = 0; i < 4; i++) {
            Check.equal("the corner " + i + " behind four quarters", i + 1, x.square(CORNERS[i][0], CORNERS[i][1], 0));
        }
        Check.equal("(1, 0) behind four quarters", 5, x.square(1, 0, 0));
    }

    private void mirrored() {
        doc.promise(10, "1: mirrored: to (11 less x, y)");
        RingThreads x = Twins.made(FaceBounds::corners);
        x.turnFace(1);
        int[] due = {2, 1, 4, 3};
        for (int i = 0; i < 4; i++) {
            Check.equal("the corner " + i, due[i], x.square(CORNERS[i][0], CORNERS[i][1], 0));
        }
        Check.equal("(1, 0) goes to (10, 0)", 5, x.square(10, 0, 0));
        Check.equal("(5, 5) goes to (6, 5)", 6, x.square(6, 5, 0));
        Check.equal("(1, 0) is pale then", 0, x.square(1, 0, 0));
        x.turnFace(1);
        Check.equal("mirrored twice: (1, 0)", 5, x.square(1, 0, 0));
        Check.equal("mirrored twice: (0, 0)", 1, x.square(0, 0, 0));
    }

    private void opposite() {
        doc.promise(10, "2: made the opposite: a grey g becomes 9 less g");
        RingThreads x = new RingThreads();
        for (int grey = 0; grey <= 9; grey++) {
            x.want(grey, 0, grey);
        }
        x.turnFace(2);
        for (int grey = 0; grey <= 9; grey++) {
            Check.equal("the opposite of " + grey, 9 - grey, x.square(grey, 0, 0));
        }
        Check.equal("the opposite of the last square's", 9, x.square(11, 11, 0));
        Check.equal("made the opposite twice", 90, x.turnFace(2));
    }

    private void turnFace() {
        doc.promise(10, "Returns the misfit then.");
        RingThreads x = new RingThreads();
        Check.equal("turnFace(0) of a bare face", 0, x.turnFace(0));
        Check.equal("turnFace(2) of a bare face", 144 * 18, x.turnFace(2));
        RingThreads y = Twins.made(z -> {
            z.want(0, 0, 1);
            z.wind(3);
        });
        Check.equal("the misfit ahead", 2 + 11, y.count(7));
        for (int quarter = 1; quarter <= 4; quarter++) {
            // Only at the corners themselves, which the chord does not cross.
            Check.equal("turnFace(0)", 2 + 11, y.turnFace(0));
        }
        y.want(6, 11, 1);
        Check.equal("a lack of 2 less 1, another one of 2", 2 + 10 + 1, y.count(7));
        Check.equal("turnFace(1), by which the chord has too much", 2 + 11 + 2, y.turnFace(1));
        doc.promise(10, "Turns the wanted face, or mirrors it: the squares change their greys.");
        Check.equal("darkness stays where it is", 1, y.square(6, 11, 1));
        Check.equal("darkness is not mirrored", 0, y.square(5, 11, 1));
        doc.promise(10, "Undoable.");
        for (int how = 0; how <= 2; how++) {
            int i = how;
            Twins.undoable("turnFace(" + i + ")", Rings::busy, z -> z.turnFace(i));
            Twins.undoable("turnFace(" + i + ") of a bare face", Rings::fresh, z -> z.turnFace(i));
        }
        doc.promise(10, "Throws `IllegalArgumentException` if how is not 0 to 2");
        for (int how : new int[] {3, -1, 4, Integer.MIN_VALUE, Integer.MAX_VALUE}) {
            Twins.argument("turnFace(" + how + ")", Rings::busy, z -> z.turnFace(how));
        }
    }

    private void square() {
        doc.promise(22, "- `x`: 0 to 11");
        RingThreads x = Twins.made(FaceBounds::corners);
        Check.equal("square(0, 0, 0)", 1, x.square(0, 0, 0));
        Check.equal("square(11, 0, 0)", 2, x.square(11, 0, 0));
        doc.promise(22, "- `y`: 0 to 11");
        Check.equal("square(11, 11, 0)", 3, x.square(11, 11, 0));
        Check.equal("square(0, 11, 0)", 4, x.square(0, 11, 0));
        doc.promise(22,
            "- `what`: 0: its wanted grey; 1: its darkness; 2: its lack, plus 10000; 3: how many chords that lie "
            + "cross it");
        RingThreads y = Twins.made(Rings.thread(9, 2000).andThen(z -> {
            z.set(1, 2);
            z.want(0, 6, 9);
            z.wind(6);
            z.wind(0);
        }));
        int[] due = {9, 18, 10000, 2};
        int[] beside = {0, 18, 9982, 2};
        int[] free = {0, 0, 10000, 0};
        for (int what = 0; what <= 3; what++) {
            Check.equal("square(0, 6, " + what + ")", due[what], y.square(0, 6, what));
            Check.equal("square(1, 6, " + what + ")", beside[what], y.square(1, 6, what));
            Check.equal("square(0, 5, " + what + ")", free[what], y.square(0, 5, what));
        }
        doc.promise(22, "Returns a property of a square.");
        // The chords from 0 to 1 and from 23 to 0 cross it, the first one nine times and the second one eight times.
        Check.equal("square(11, 6, 3) of 200 chords", 9 + 8, Twins.made(Rings.around(200)).square(11, 6, 3));
        doc.promise(22, "Returns the property.");
        y.unwind();
        y.unwind();
        Check.equal("square(0, 6, 3) behind unwind", 0, y.square(0, 6, 3));
        Check.equal("square(0, 6, 2) behind unwind", 10018, y.square(0, 6, 2));
        doc.promise(22, "Throws `IndexOutOfBoundsException` if there is no such square");
        for (int[] square : NO_SQUARES) {
            Twins.outside("square(" + square[0] + ", " + square[1] + ", 0)", Rings::busy,
                z -> z.square(square[0], square[1], 0));
        }
        Twins.outside("square(0, 12, 4), ahead of the other exception", Rings::busy, z -> z.square(0, 12, 4));
        Twins.outside("square(-1, 0, -1), ahead of the other exception", Rings::busy, z -> z.square(-1, 0, -1));
        doc.promise(22, "Throws `IllegalArgumentException` if what is not 0 to 3");
        for (int what : new int[] {4, -1, Integer.MIN_VALUE, Integer.MAX_VALUE}) {
            Twins.argument("square(0, 0, " + what + ")", Rings::busy, z -> z.square(0, 0, what));
            Twins.argument("square(11, 11, " + what + ")", Rings::busy, z -> z.square(11, 11, what));
        }
    }

    private void palest() {
        doc.promise(29, "NONE if none lacks");
        Check.equal("palest() of lacks of 0", RingThreads.NONE, new RingThreads().palest());
        Check.equal("palest() of lacks below 0", RingThreads.NONE, Twins.made(x -> x.wind(6)).palest());
        Consumer<RingThreads> enough = x -> {
            x.set(2, 1);
            x.want(0, 6, 1);
            x.wind(6);
        };
        Check.equal("palest() of a lack that is filled", RingThreads.NONE, Twins.made(enough).palest());
        doc.promise(29, "Finds the square that lacks most.");
        Check.equal("palest() of a lack of 1", 600, Twins.made(enough.andThen(x -> x.unwind())).palest());
        RingThreads two = Twins.made(x -> {
            x.set(2, 1);
            x.want(0, 0, 8);
            x.want(11, 11, 9);
            x.wind(6);
        });
        Check.equal("palest() of lacks of 8 and 9", 1111, two.palest());
        Check.equal("a dark square that is wanted", 1111, Twins.made(x -> {
            x.set(2, 1);
            x.want(11, 11, 1);
            x.want(0, 6, 2);
            x.knot(1);
            x.wind(6);
        }).palest());
        doc.promise(29, "Returns 100 times its y, and its x, of several the first one");
        Check.equal("palest() of the first square", 0, Twins.made(x -> x.want(0, 0, 1)).palest());
        Check.equal("palest() of the last square", 1111, Twins.made(x -> x.want(11, 11, 1)).palest());
        Check.equal("palest() of (11, 0)", 11, Twins.made(x -> x.want(11, 0, 1)).palest());
        Check.equal("palest() of (0, 11)", 1100, Twins.made(x -> x.want(0, 11, 1)).palest());
        Check.equal("palest() of all alike", 0, Twins.made(x -> x.turnFace(2)).palest());
        Check.equal("of (3, 4) and (4, 3)", 304, Twins.made(x -> {
            x.want(3, 4, 9);
            x.want(4, 3, 9);
        }).palest());
        Check.equal("of (10, 11) and (11, 11)", 1110, Twins.made(x -> {
            x.want(11, 11, 9);
            x.want(10, 11, 9);
        }).palest());
    }

    private static void share(String what, int due, RingThreads x) {
        Check.equal(what, Double.valueOf(due / 144.0), Double.valueOf(x.shownShare()));
    }

    private void shownShare() {
        doc.promise(31, "Returns how well the face shows.");
        share("of a bare face all", 144, new RingThreads());
        RingThreads none = Twins.made(x -> x.turnFace(2));
        share("of the opposite none", 0, none);
        doc.promise(31, "Returns the squares whose lack is 0, as a double, divided by 144.");
        none.want(11, 11, 0);
        share("one square", 1, none);
        share("but one square", 143, Twins.made(x -> x.want(0, 0, 1)));
        share("squares that have too much don't show", 132, Twins.made(x -> x.wind(6)));
        share("squares that are filled show", 133, Twins.made(x -> {
            x.set(2, 1);
            x.want(0, 6, 1);
            x.wind(6);
        }));
    }
}
