import java.util.ArrayList;
import java.util.List;
import java.util.function.Consumer;

/** The bounds of gains and of the best chords: "The face", promises 26, 27, 28 and 30. */
final class BestBounds {
    private static final int NONE = RingThreads.NONE;
    private static final int[] EACH_MANY = {4, 6, 8, 12, 24};
    // Of 4 nails: what the chord from 0 to 3 crosses, parts of it, and half of what that from 0 to 2 crosses.
    private static final String SEVEN = "11,6 11,5 10,4 9,3 8,2 7,1 6,0";
    private static final String THREE_OF_SEVEN = "9,3 8,2 7,1";
    private static final String HALF_OF_ROW = "5,6 6,6 7,6 8,6 9,6 10,6";

    private final Sentences doc;

    private BestBounds(Sentences doc) {
        this.doc = doc;
    }

    static void run(Sentences doc) {
        BestBounds bounds = new BestBounds(doc);
        doc.run(
            bounds::gainOfLacks, bounds::gain, bounds::greatestGain, bounds::fewestTimes, bounds::shortest,
            bounds::lowestNail, bounds::best, bounds::notRefusedThen, bounds::bothGains, bounds::lowestOfTwo,
            bounds::bestTwo, bounds::bestSpool, bounds::bestSpoolOfSeveral);
    }

    /** Of 4 nails, the chord from 0 to 3 crosses 7 squares, of which (9, 3) is the only one that can be wanted. */
    private static int gainOf(int shade, int grey) {
        RingThreads x = Twins.made(Rings.thread(shade, 2000).andThen(y -> {
            y.nails(4);
            y.set(2, 1);
            y.want(9, 3, grey);
        }));
        return x.gain(3) - 10000 + 6 * shade;
    }

    private void gainOfLacks() {
        doc.named("The face",
            "The gain of a chord with the spool of now is by how much less the misfit would be with it");
        int[] due = {-3, -1, 1, 3, 3};
        for (int lack = 0; lack <= 4; lack++) {
            Check.equal("the gain of the shade 3 on a lack of " + lack, due[lack], gainOf(3, lack));
        }
        Check.equal("the gain of the shade 9 on a lack of 9", 9, gainOf(9, 9));
        Check.equal("the gain of the shade 9 on a lack of 1", -7, gainOf(9, 1));
        Check.equal("the gain of the shade 1 on a lack of 1", 1, gainOf(1, 1));
        doc.named("The face", "it can be below 0");
        Check.equal("the gain of the shade 9 on 7 squares of too much", 10000 - 7 * 9,
            Twins.made(Rings.thread(9, 2000).andThen(y -> {
            y.nails(4);
            y.set(1, 2);
            y.wind(3);
        })).gain(0));
        RingThreads x = Twins.made(Rings::busy);
        int ahead = x.count(7);
        int gain = x.gain(20) - 10000;
        Check.equal("wind(20)", 0, x.wind(20));
        Check.equal("the misfit with the chord", ahead - gain, x.count(7));
    }

    private void gain() {
        doc.promise(26, "- `nail`: a nail");
        for (int many : EACH_MANY) {
            RingThreads x = Twins.made(y -> y.nails(many));
            Check.equal("gain(0) of " + many, NONE, x.gain(0));
            Check.equal("gain(the last) of " + many, 10000 - x.chord(0, many - 1, 1), x.gain(many - 1));
        }
        doc.promise(26, "Returns the gain of a chord from the nail of now, refused or not.");
        Check.equal("gain(1), refused since it is near", 9996, Twins.made(x -> x.set(0, 6)).gain(1));
        Check.equal("gain(0), refused since it lies", 9996, Twins.made(x -> x.wind(1)).gain(0));
        Check.equal("gain(1), refused since there is no thread", 9996, Twins.made(Rings.thread(1, 0)).gain(1));
        Check.equal("gain(9) with 200 chords", 10000 - 4, Twins.made(Rings.around(200)).gain(9));
        Twins.alike("gain changes nothing", Rings.around(3).andThen(x -> x.gain(9)), Rings.around(3));
        doc.promise(26, "Returns the gain, plus 10000; NONE if it is the nail of now.");
        RingThreads x = Twins.made(y -> {
            y.set(2, 1);
            Check.load(y, "g111111");
        });
        Check.equal("gain(6) of a gain of 0", 10000, x.gain(6));
        x.wind(11);
        Check.equal("gain(11), of the nail of now", NONE, x.gain(11));
        Check.isTrue("gain(0) then", x.gain(0) != NONE);
        doc.promise(26, "Throws `IndexOutOfBoundsException` if there is no such nail");
        for (int many : EACH_MANY) {
            Twins.outside("gain(" + many + ")", y -> y.nails(many), y -> y.gain(many));
        }
        for (int nail : new int[] {-1, Integer.MIN_VALUE, Integer.MAX_VALUE}) {
            Twins.outside("gain(" + nail + ")", Rings::busy, y -> y.gain(nail));
        }
    }

    private void greatestGain() {
        doc.named("The face", "the one with the greatest gain");
        RingThreads x = Twins.made(Rings.wanted(HALF_OF_ROW + " 10,4 " + THREE_OF_SEVEN, 1));
        Check.equal("gain(2)", 10000, x.gain(2));
        Check.equal("gain(3)", 10001, x.gain(3));
        Check.equal("best() of gains of 0 and 1", 3, x.best());
        RingThreads y = Twins.made(Rings.wanted(HALF_OF_ROW + " " + THREE_OF_SEVEN, 1));
        Check.equal("gain(2)", 10000, y.gain(2));
        Check.equal("gain(3)", 9999, y.gain(3));
        Check.equal("best() of gains of 0 and -1", 2, y.best());
        doc.named("The face", "of those from the nail of now that are not refused");
        x.set(0, 2);
        Check.equal("best() without the one that is near", 2, x.best());
        x.set(0, 1);
        x.spool(1, 1, 84);
        x.knot(1);
        Check.equal("best() with just enough thread", 3, x.best());
        x.knot(0);
        x.spool(1, 1, 83);
        x.knot(1);
        Check.equal("best() without thread for any", NONE, x.best());
        RingThreads z = Twins.made(Rings.wanted(SEVEN, 9).andThen(w -> w.wind(3)));
        Check.isTrue("back it would gain the most", z.gain(0) > z.gain(1) && z.gain(1) > z.gain(2));
        Check.equal("best() without the one that lies", 1, z.best());
    }

    private void fewestTimes() {
        doc.named("The face", "of several the one that lies the fewest times");
        RingThreads x = new RingThreads();
        x.set(1, 9);
        x.wind(1);
        x.wind(0);
        Check.equal("gains of 1 and 11", x.gain(1), x.gain(11));
        Check.equal("lengths of 1 and 11", x.chord(0, 1, 0), x.chord(0, 11, 0));
        Check.equal("best() of two times and none", 11, x.best());
        x.wind(11);
        x.wind(0);
        Check.equal("best() of two times each", 1, x.best());
        x.wind(1);
        x.wind(0);
        x.wind(11);
        x.unwind();
        Check.equal("gains of 1 and 11", x.gain(1), x.gain(11));
        Check.equal("best() of four times and two", 11, x.best());
        RingThreads z = Twins.made(y -> {
            y.set(1, 9);
            y.wind(2);
            y.wind(5);
            y.set(0, 3);
        });
        Check.equal("gains of 1 and 2", z.gain(1), z.gain(2));
        Check.isTrue("the one to 2 is shorter", z.chord(5, 2, 0) < z.chord(5, 1, 0));
        Check.equal("best(): the fewest times ahead of the shortest", 1, z.best());
    }

    private void shortest() {
        doc.named("The face", "of these the shortest one");
        RingThreads x = Twins.made(y -> {
            y.set(1, 9);
            y.wind(5);
            y.set(0, 3);
        });
        Check.equal("gains of 1 and 2", x.gain(1), x.gain(2));
        Check.equal("times of 1 and 2", x.chord(5, 1, 2), x.chord(5, 2, 2));
        Check.equal("from 5 to 1", 104, x.chord(5, 1, 0));
        Check.equal("from 5 to 2", 84, x.chord(5, 2, 0));
        Check.equal("best(): the shortest ahead of the lowest nail", 2, x.best());
    }

    private void lowestNail() {
        doc.named("The face", "of these the one to the lowest nail");
        RingThreads x = new RingThreads();
        Check.equal("gains of 1 and 11", x.gain(1), x.gain(11));
        Check.equal("lengths of 1 and 11", x.chord(0, 1, 0), x.chord(0, 11, 0));
        Check.equal("best() of 1 and 11", 1, x.best());
    }

    private void best() {
        doc.promise(27, "Finds the best chord.");
        Twins.alike("best changes nothing", Rings.around(3).andThen(x -> x.best()), Rings.around(3));
        Check.isTrue("best() with 200 chords", Twins.made(Rings.around(200)).best() != NONE);
        doc.promise(27, "Returns the nail to which it leads; NONE if all are refused.");
        Check.equal("best() without thread", NONE, Twins.made(Rings.thread(1, 0)).best());
        Check.equal("best() of thread for two chords alone", 1, Twins.made(Rings.thread(1, 31)).best());
        Check.equal("best() of one less", NONE, Twins.made(Rings.thread(1, 30)).best());
        Check.equal("best() of none that are so far apart", NONE, Twins.made(x -> {
            x.nails(4);
            x.set(0, 3);
        }).best());
        Check.equal("best() of one that is so far apart", 2, Twins.made(x -> {
            x.nails(4);
            x.set(0, 2);
        }).best());
        Check.equal("best() of the first nail, from the last one", 0, Twins.made(x -> {
            x.set(0, 6);
            x.set(1, 2);
            x.wind(6);
        }).best());
        Check.equal("best() of one that lies too often", NONE, Twins.made(x -> {
            x.set(0, 6);
            x.wind(6);
        }).best());
        Check.equal("best() of the last nail", 23, Twins.made(x -> {
            x.nails(24);
            x.set(2, 1);
            x.want(11, 6, 9);
            x.want(11, 5, 9);
            x.want(11, 4, 9);
        }).best());
    }

    /** All pairs of chords with the least misfit behind them, in order: each is wound and unwound again. */
    private static List<Integer> bestPairs(Consumer<RingThreads> recipe) {
        List<Integer> found = new ArrayList<>();
        int least = Integer.MAX_VALUE;
        int many = Twins.made(recipe).count(0);
        for (int first = 0; first < many; first++) {
            RingThreads x = Twins.made(recipe);
            if (x.wind(first) == 0) {
                for (int second = 0; second < many; second++) {
                    if (x.wind(second) == 0) {
                        int misfit = x.count(7);
                        if (misfit < least) {
                            found.clear();
                            least = misfit;
                        }
                        if (misfit == least) {
                            found.add(100 * first + second);
                        }
                        x.unwind();
                    }
                }
            }
        }
        return found;
    }

    private static int firstOf(List<Integer> pairs) {
        return pairs.get(0);
    }

    private static Consumer<RingThreads> rowOfTwo(int times, int thread) {
        return Rings.thread(1, thread).andThen(x -> {
            x.set(1, times);
            Check.load(x, "g*2");
        });
    }

    private void notRefusedThen() {
        doc.named("The face",
            "the chord to a nail that is not refused, and then a chord from there that would not be refused then");
        Check.equal("there and back", 600, Twins.made(rowOfTwo(2, 2000)).bestTwo());
        Check.isTrue("not back over the chord that lies then", Twins.made(rowOfTwo(1, 2000)).bestTwo() != 600);
        Check.equal("just as much thread as both need", 600, Twins.made(rowOfTwo(2, 240)).bestTwo());
        Check.isTrue("one less of thread", Twins.made(rowOfTwo(2, 239)).bestTwo() != 600);
        // From 0 to 6, and to a nail that is 5 from 6 and thus 1 from 0.
        Consumer<RingThreads> across = rowOfTwo(1, 2000).andThen(x -> x.set(0, 5));
        Check.equal("the pairs of 5 apart", firstOf(bestPairs(across)), Twins.made(across).bestTwo());
        Check.equal("none behind the only one", NONE,
            Twins.made(rowOfTwo(1, 2000).andThen(x -> x.set(0, 6))).bestTwo());
        Check.equal("back again behind the only one", 600,
            Twins.made(rowOfTwo(2, 2000).andThen(x -> x.set(0, 6))).bestTwo());
    }

    private void bothGains() {
        doc.named("The face", "for which both gains together (the second one behind the first one) are the greatest");
        // The chord to 3 gains the most, but behind the one to 2 that from there to 1 gains more than any behind 3.
        String fromTwoToOne = "6,11 5,11 4,10 3,9 2,8 1,7";
        Consumer<RingThreads> later = Rings.wanted(HALF_OF_ROW + " 10,4 " + THREE_OF_SEVEN + " " + fromTwoToOne, 1);
        RingThreads x = Twins.made(later);
        Check.equal("gain(2)", 10000, x.gain(2));
        Check.equal("gain(3)", 10001, x.gain(3));
        Check.equal("best()", 3, x.best());
        Check.equal("bestTwo()", 201, x.bestTwo());
        Check.equal("the only best pair", List.of(201), bestPairs(later));
        Consumer<RingThreads> again = y -> {
            y.set(1, 2);
            y.set(2, 1);
            Check.load(y, "g*1");
        };
        Check.isTrue("the second one has too much where the first one lies", Twins.made(again).bestTwo() != 600);
        Check.equal("the pairs of one row", firstOf(bestPairs(again)), Twins.made(again).bestTwo());
    }

    private void lowestOfTwo() {
        doc.named("The face", "of several with the lowest first nail, then the lowest second one");
        // The shade 2 gains nothing on lacks of 1, so that many chords gain the same.
        Consumer<RingThreads> even = Rings.thread(2, 9999).andThen(x -> {
            x.set(2, 1);
            Check.load(x, Rings.DARK_FACE.replace('9', '1'));
        });
        for (int many : new int[] {4, 8, 12}) {
            Consumer<RingThreads> recipe = ((Consumer<RingThreads>) x -> x.nails(many)).andThen(even);
            List<Integer> pairs = bestPairs(recipe);
            Check.isTrue("several pairs of " + many + " have several first nails",
                pairs.get(0) / 100 != pairs.get(pairs.size() - 1) / 100);
            Check.equal("bestTwo() of " + many, firstOf(pairs), Twins.made(recipe).bestTwo());
        }
        Consumer<RingThreads> ofEight = ((Consumer<RingThreads>) x -> x.nails(8)).andThen(even);
        List<Integer> pairs = bestPairs(ofEight);
        Check.equal("two pairs have the same first nail", pairs.get(0) / 100, pairs.get(1) / 100);
        Check.equal("bestTwo() with the lowest second nail", firstOf(pairs), Twins.made(ofEight).bestTwo());
        neitherTimesNorLengths();
    }

    /** From 5 the chord to 2 is shorter than that to 1, which gains as much; then it lies less often too. */
    private static void neitherTimesNorLengths() {
        String fromNoneToFive = "11,6 10,6 9,6 8,6 8,7 7,7 6,7 5,7 4,7 4,8 3,8 2,8 1,8 0,8 0,9";
        RingThreads x = Twins.made(y -> {
            y.set(2, 1);
            Rings.want(y, fromNoneToFive, 1);
        });
        RingThreads z = Twins.made(y -> {
            y.set(1, 2);
            y.set(2, 1);
            Rings.want(y, fromNoneToFive, 2);
            y.wind(1);
            y.wind(5);
            y.wind(0);
        });
        for (RingThreads ring : new RingThreads[] {x, z}) {
            ring.set(0, 3);
            Check.equal("bestTwo() of chords of two lengths", 501, ring.bestTwo());
            ring.wind(5);
            Check.equal("gains of 1 and 2 behind the first one", ring.gain(1), ring.gain(2));
            Check.equal("best() behind the first one", 2, ring.best());
        }
        Check.equal("the second one lies", 1, z.chord(5, 1, 2));
    }

    private static Consumer<RingThreads> lastSpool(int length) {
        return x -> {
            x.spool(2, 1, length);
            x.knot(2);
        };
    }

    private void bestTwo() {
        doc.promise(28, "Finds the best two chords (200 chords do not matter).");
        // Of 24 nails, the thread is enough for two chords ahead alone, since those back lie 9 times.
        Check.equal("bestTwo() with 198 chords", 708, Twins.made(Rings.around(198).andThen(lastSpool(31))).bestTwo());
        Check.equal("bestTwo() with 199 chords", 809, Twins.made(Rings.around(199).andThen(lastSpool(30))).bestTwo());
        Check.equal("bestTwo() with 200 chords", 910, Twins.made(Rings.around(200).andThen(lastSpool(30))).bestTwo());
        Check.equal("one less of thread", NONE, Twins.made(Rings.around(200).andThen(lastSpool(29))).bestTwo());
        for (int chords = 199; chords <= 200; chords++) {
            Consumer<RingThreads> recipe = Rings.around(chords);
            Twins.alike("bestTwo changes nothing", recipe.andThen(x -> x.bestTwo()), recipe);
        }
        doc.promise(28, "Returns 100 times the first nail, and the second one; NONE if there are none.");
        Check.equal("bestTwo() without thread", NONE, Twins.made(Rings.thread(1, 0)).bestTwo());
        Check.equal("bestTwo() of thread for one chord", NONE, Twins.made(Rings.thread(1, 61)).bestTwo());
        Check.isTrue("bestTwo() of thread for two chords", Twins.made(Rings.thread(1, 62)).bestTwo() != NONE);
        Check.equal("bestTwo() of none so far apart", NONE, Twins.made(x -> {
            x.nails(4);
            x.set(0, 3);
        }).bestTwo());
        Check.equal("bestTwo() of the nails 23 and 22", 2322, Twins.made(lastSpool(31).andThen(x -> {
            x.nails(24);
            x.want(11, 3, 9);
        })).bestTwo());
        Check.equal("bestTwo() of the nail 0 first", 6, Twins.made(x -> {
            x.set(0, 6);
            x.set(1, 3);
            x.wind(6);
        }).bestTwo());
    }

    private void bestSpool() {
        doc.promise(30, "NONE if with each all are refused");
        Consumer<RingThreads> noThread = x -> {
            x.spool(1, 1, 0);
            x.spool(2, 1, 0);
            x.knot(2);
            x.spool(0, 1, 0);
        };
        Check.equal("bestSpool() without thread", NONE, Twins.made(noThread).bestSpool());
        for (int spool = 0; spool <= 1; spool++) {
            int i = spool;
            Check.equal("thread of one spool alone", i,
                Twins.made(noThread.andThen(x -> x.spool(i, 9, 31))).bestSpool());
            Check.equal("one less of it", NONE, Twins.made(noThread.andThen(x -> x.spool(i, 9, 30))).bestSpool());
        }
        Check.equal("thread of the last spool alone", 2, Twins.made(noThread.andThen(x -> {
            x.knot(0);
            x.spool(2, 9, 31);
        })).bestSpool());
        Check.equal("none so far apart", NONE, Twins.made(x -> {
            x.nails(4);
            x.set(0, 3);
        }).bestSpool());
        Check.equal("the only one lies", NONE, Twins.made(x -> {
            x.set(0, 6);
            x.wind(6);
        }).bestSpool());
        Check.isTrue("with 200 chords", Twins.made(Rings.around(200)).bestSpool() != NONE);
        doc.promise(30, "without a knot ahead of now");
        for (int chords : new int[] {0, 200}) {
            Consumer<RingThreads> recipe = Rings.around(chords);
            Twins.alike("bestSpool changes nothing", recipe.andThen(x -> x.bestSpool()), recipe);
        }
    }

    private void bestSpoolOfSeveral() {
        doc.promise(30, "Finds the spool with which the best chord gains the most");
        Consumer<RingThreads> row = x -> {
            x.set(0, 6);
            x.set(2, 3);
            Check.load(x, "g*1");
        };
        Check.equal("the shade 3 on lacks of 3", 2, Twins.made(row).bestSpool());
        Check.equal("the shade 2 on lacks of 2", 1, Twins.made(row.andThen(x -> x.set(2, 2))).bestSpool());
        Check.equal("the shade 1 on lacks of 1", 0, Twins.made(row.andThen(x -> x.set(2, 1))).bestSpool());
        Check.equal("the least loss of a bare face", 0, new RingThreads().bestSpool());
        Check.equal("the best chord of the thread that is left", 1,
            Twins.made(row.andThen(x -> x.spool(2, 3, 119))).bestSpool());
        Check.equal("just enough thread", 2, Twins.made(row.andThen(x -> x.spool(2, 3, 120))).bestSpool());
        doc.promise(30, "the best chord from the nail of now would have the greatest gain, of several the lowest");
        for (int now = 0; now <= 2; now++) {
            int spool = now;
            Consumer<RingThreads> alike = x -> {
                x.spool(1, 1, 2000);
                x.spool(2, 1, 2000);
                if (spool > 0) {
                    x.knot(spool);
                }
            };
            Check.equal("of three of the same shade, " + spool + " is the one of now", 0,
                Twins.made(alike).bestSpool());
        }
        Check.equal("of two of the same shade", 1, Twins.made(row.andThen(x -> x.spool(1, 3, 2000))).bestSpool());
        // On lacks of 4 the shade 5 gains 5 - 2, no more than the shade 3 does.
        Check.equal("of two of the same gain", 1, Twins.made(row.andThen(x -> {
            x.set(2, 4);
            x.spool(1, 3, 2000);
            x.spool(2, 5, 2000);
        })).bestSpool());
    }
}
