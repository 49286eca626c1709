import java.util.List;

/** All promises: drawn runs of calls, whose answers and exceptions are compared with those of RingModel. */
final class ModelTest {
    private static final int RUNS = 120;
    private static final int CALLS_A_RUN = 480;
    private static final int LONG_RUNS = 6;
    private static final int[] CODES = {'a', 'b', 'g', 'l', 'm', '0', '5', '9', '5', '1', '*', '*', ';', ';', '~', 32, 127};
    private static final String[] TEXTS = {
        "a*5", "g*9;f*9", "c123456789012", "b1;b2", "d*4;d12", "e0123456789012", "h*7;i*7;j*7;k*7;l*7", "a;", "f*9;g*9;h*9"
    };

    private final RingThreads ring = new RingThreads();
    private final RingModel model = new RingModel();
    private final int run;
    private long seed;

    private ModelTest(int run) {
        this.run = run;
        this.seed = run * 7919L + 17;
    }

    public static void main(String[] args) {
        for (int run = 0; run < RUNS; run++) {
            new ModelTest(run).drive();
        }
        for (int run = RUNS; run < RUNS + LONG_RUNS; run++) {
            new ModelTest(run).driveLong();
        }
        Check.end();
    }

    private int draw(int below) {
        seed = seed * 6364136223846793005L + 1442695040888963407L;
        return (int) ((seed >>> 33) % below);
    }

    private void drive() {
        int calls = 0;
        while (calls < CALLS_A_RUN) {
            int kind = draw(100);
            if (kind < 3) {
                String text = TEXTS[draw(TEXTS.length)];
                type(text);
                call(draw(4) == 0 ? "firstError" : "load", 0, 0, 0);
                calls += text.length() + 1;
            } else if (kind < 40) {
                call("wind", number(26), 0, 0);
                calls++;
            } else {
                drawn(draw(RingModel.CALLS.length));
                calls++;
            }
        }
        call("digest", 0, 0, 0);
    }

    /** Chords laid up to 200, and looked at from there on. */
    private void driveLong() {
        call("nails", 24, 0, 0);
        call("set", 1, 9, 0);
        call("spool", 1, 1 + run % 3, 9999);
        call("knot", 1, 0, 0);
        type("c*9;d*9;h123456789987");
        call("load", 0, 0, 0);
        for (int i = 0; i < 260 && asked("count", 3) < 200; i++) {
            call("wind", (int) (asked("count", 1) + 1 + draw(2)) % 24, 0, 0);
        }
        Check.equal("run " + run + ": chords that lie", 200, asked("count", 3));
        for (int i = 0; i < 8; i++) {
            call("wind", draw(24), 0, 0);
            call("bestTwo", 0, 0, 0);
            call("best", 0, 0, 0);
            call("bestSpool", 0, 0, 0);
            call("count", 8, 0, 0);
            call("windBest", 1 + draw(3), 0, 0);
            call("count", 3, 0, 0);
            call(draw(2) == 0 ? "unwind" : "undo", 0, 0, 0);
            call("knot", draw(3), 0, 0);
        }
        call("digest", 0, 0, 0);
    }

    private void call(String name, int a, int b, int c) {
        compare(List.of(RingModel.CALLS).indexOf(name), a, b, c);
    }

    /** What the model answers: the ring has but 512 calls. */
    private long asked(String name, int what) {
        return model.call(List.of(RingModel.CALLS).indexOf(name), what, 0, 0);
    }

    private void type(String text) {
        for (int i = 0; i < text.length(); i++) {
            call("append", text.charAt(i), 0, 0);
        }
    }

    /** Mostly in range, at times just outside it, seldom far away. */
    private int number(int most) {
        int kind = draw(60);
        if (kind == 0) {
            return draw(2) == 0 ? Integer.MAX_VALUE : Integer.MIN_VALUE;
        }
        return kind < 4 ? -1 : draw(most);
    }

    private void drawn(int call) {
        switch (RingModel.CALLS[call]) {
            case "nails":
                // Seldom, since all chords go with it.
                if (draw(4) == 0) {
                    compare(call, new int[] {4, 6, 8, 12, 24, 24, 24, 5, 0}[draw(9)], 0, 0);
                }
                break;
            case "spool":
                compare(call, number(4), number(11), draw(3) == 0 ? number(10002) : number(300));
                break;
            case "windBest":
                compare(call, draw(8) == 0 ? number(53) : 1 + draw(4), 0, 0);
                break;
            case "append":
                compare(call, CODES[draw(CODES.length)], 0, 0);
                break;
            case "clearBuffer":
                if (draw(3) == 0) {
                    compare(call, 0, 0, 0);
                }
                break;
            case "nailOf": case "whyNot": case "gain":
                compare(call, number(25), number(5), 0);
                break;
            case "chord":
                compare(call, number(25), number(25), number(4));
                break;
            case "want":
                compare(call, number(13), number(13), number(11));
                break;
            case "square":
                compare(call, number(13), number(13), number(5));
                break;
            case "wound":
                compare(call, number(12), number(4), 0);
                break;
            case "digest":
                if (draw(3) == 0) {
                    compare(call, 0, 0, 0);
                }
                break;
            case "bestTwo": case "bestSpool":
                if (draw(4) == 0) {
                    compare(call, 0, 0, 0);
                }
                break;
            case "set":
                compare(call, number(4), number(11), 0);
                break;
            case "count":
                compare(call, number(14), 0, 0);
                break;
            default:
                compare(call, number(5), 0, 0);
        }
    }

    private void compare(int call, int a, int b, int c) {
        String due;
        try {
            due = "" + model.call(call, a, b, c);
        } catch (RuntimeException e) {
            due = e.getClass().getName();
        }
        String got;
        try {
            got = "" + answer(call, a, b, c);
        } catch (RuntimeException e) {
            got = e.getClass().getName();
        }
        Check.equal("run " + run + ": " + RingModel.CALLS[call] + "(" + a + ", " + b + ", " + c + ")", due, got);
    }

    private long answer(int call, int a, int b, int c) {
        switch (RingModel.CALLS[call]) {
            case "nails": return ring.nails(a);
            case "spool": return ring.spool(a, b, c);
            case "knot": return ring.knot(a);
            case "set": return ring.set(a, b);
            case "wind": return ring.wind(a);
            case "unwind": return ring.unwind();
            case "windBest": return ring.windBest(a);
            case "want": return ring.want(a, b, c);
            case "turnFace": return ring.turnFace(a);
            case "append": return ring.append(a);
            case "clearBuffer": return ring.clearBuffer();
            case "firstError": return ring.firstError();
            case "load": return ring.load();
            case "keep": return ring.keep(a);
            case "goBack": return ring.goBack(a);
            case "undo": return ring.undo();
            case "nailOf": return ring.nailOf(a, b);
            case "spoolOf": return ring.spoolOf(a, b);
            case "chord": return ring.chord(a, b, c);
            case "wound": return ring.wound(a, b);
            case "square": return ring.square(a, b, c);
            case "count": return ring.count(a);
            case "setting": return ring.setting(a);
            case "whyNot": return ring.whyNot(a);
            case "gain": return ring.gain(a);
            case "best": return ring.best();
            case "bestTwo": return ring.bestTwo();
            case "palest": return ring.palest();
            case "bestSpool": return ring.bestSpool();
            case "shownShare": return Double.doubleToLongBits(ring.shownShare());
            default: return ring.digest();
        }
    }
}
