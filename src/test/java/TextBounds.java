import java.util.function.Consumer;

/** The bounds of the buffer and of faces as texts: "Input text", promises 11 to 14. */
final class TextBounds {
    private static final String DIGITS = "0123456789";
    private static final String LETTERS = "abcdefghijkl";
    /** Of 60 characters, and a face. */
    private static final String FULL = "a123456789012;b123456789012;c123456789012;d123456789012;e123";

    private final Sentences doc;

    private TextBounds(Sentences doc) {
        this.doc = doc;
    }

    static void run(Sentences doc) {
        TextBounds bounds = new TextBounds(doc);
        doc.run(
            bounds::most60, bounds::rows, bounds::letters, bounds::digits, bounds::stars, bounds::syntaxErrors,
            bounds::append, bounds::clearBuffer, bounds::firstError, bounds::load, bounds::loadRefused);
    }

    private static String row(RingThreads x, int y) {
        StringBuilder greys = new StringBuilder();
        for (int column = 0; column < 12; column++) {
            greys.append(x.square(column, y, 0));
        }
        return greys.toString();
    }

    private static RingThreads loaded(String text, int due) {
        RingThreads x = new RingThreads();
        Check.equal("load of " + text, due, Check.load(x, text));
        return x;
    }

    private static void noFace(String text) {
        Twins.argument("load of " + text, Rings.typed(text), x -> x.load());
    }

    private static void errorAt(String text, int due) {
        Check.equal("firstError() of " + text, due, Twins.made(Rings.typed(text)).firstError());
    }

    private void most60() {
        doc.named("Input text", "The buffer has at most 60 characters.");
        RingThreads x = Twins.made(Rings.typed(FULL.substring(0, 59)));
        Check.equal("append of the 60th", 60, x.append('9'));
        Twins.state("append of the 61st", Rings.typed(FULL), y -> y.append('9'));
        Twins.state("append of the 61st, where all are wrong", Rings.typed("~".repeat(60)), y -> y.append('~'));
    }

    private void rows() {
        doc.named("Input text", "A face as a text is one or more rows with \";\" between them");
        noFace("");
        loaded("a1", 1);
        loaded("a1;b1", 2);
        loaded("a*1" + ";b*1".repeat(14), 24);
        noFace("a1;");
        noFace(";a1");
        noFace("a1;;b1");
        noFace("a1b1");
        noFace("a1:b1");
        noFace(";");
        RingThreads x = loaded("l*9;a*1;l*2", 24);
        Check.equal("the first row", "111111111111", row(x, 0));
        Check.equal("the last row", "222222222222", row(x, 11));
    }

    private void letters() {
        doc.named("Input text", "a letter \"a\" to \"l\" (for y from 0 to 11)");
        for (int y = 0; y < 12; y++) {
            RingThreads x = loaded((char) ('a' + y) + "2", 1);
            Check.equal("the grey of (0, " + y + ")", 2, x.square(0, y, 0));
        }
        noFace("`1");
        noFace("m1");
        noFace("A1");
        noFace("L1");
        noFace("11");
    }

    private void digits() {
        doc.named("Input text", "and 1 to 12 digits, the greys from x = 0 on");
        noFace("a");
        Check.equal("1 digit", "900000000000", row(loaded("a9", 1), 0));
        Check.equal("11 digits", "123456789010", row(loaded("a12345678901", 10), 0));
        Check.equal("12 digits", "123456789012", row(loaded("a123456789012", 11), 0));
        noFace("a1234567890123");
        noFace("a123456789012*1");
        noFace("a/");
        noFace("a:");
        noFace("a1/");
        noFace("a1:");
        doc.named("Input text", "the other squares of this row are as they were");
        RingThreads x = loaded("c*7;d*8;e*9", 36);
        Check.equal("load of 11 squares, of which one has the grey", 10, Check.load(x, "d12345678901"));
        Check.equal("the row above", "777777777777", row(x, 2));
        Check.equal("the row", "123456789018", row(x, 3));
        Check.equal("the row below", "999999999999", row(x, 4));
        Check.equal("load of 1 square", 1, Check.load(x, "d0"));
        Check.equal("the row then", "023456789018", row(x, 3));
    }

    private void stars() {
        doc.named("Input text", "Or a row is a letter, and \"*\" and a digit: all squares of it have this grey.");
        Check.equal("the greatest grey", "999999999999", row(loaded("l*9", 12), 11));
        Check.equal("the least grey", "000000000000", row(loaded("a*9;a*0", 0), 0));
        noFace("a*");
        noFace("*1");
        noFace("a*12");
        noFace("a*1*");
        noFace("a**1");
        noFace("a*a");
        noFace("a1*");
        noFace("a1*2");
        noFace("a*;b1");
    }

    /** Each character that can be appended, behind this beginning, is wrong but for the allowed ones. */
    private static void allowed(String beginning, String allowed) {
        for (char code = 33; code <= 126; code++) {
            String text = beginning + code;
            errorAt(text, allowed.indexOf(code) >= 0 ? text.length() : beginning.length());
        }
    }

    private void syntaxErrors() {
        doc.named("Input text",
            "a character is a syntax error if no face as a text, of any length, begins with the characters before "
            + "it and this character");
        allowed("", LETTERS);
        allowed("a", DIGITS + "*");
        allowed("l*", DIGITS);
        allowed("a*5", ";");
        allowed("l5", DIGITS + ";");
        allowed("a12345678901", DIGITS + ";");
        allowed("a123456789012", ";");
        allowed("a5;", LETTERS);
        allowed("a123456789012;", LETTERS);
        allowed("a*5;", LETTERS);
        allowed("a*5;b123456789012;l", DIGITS + "*");
        // A text of 60 characters can be the beginning of a longer face.
        allowed("a1234" + ";b*1".repeat(13) + ";c", DIGITS + "*");
        allowed(FULL.substring(0, 58) + ";", LETTERS);
        allowed(FULL.substring(0, 58) + "5", DIGITS + ";");
        doc.named("Input text", "The buffer is read from left to right");
        errorAt("a5;x;y", 3);
        errorAt("xa5;b5", 0);
        errorAt("a55555555555555;b5", 13);
    }

    private void append() {
        doc.promise(11, "- `code`: the character code, 33 to 126");
        RingThreads x = new RingThreads();
        Check.equal("append(33)", 1, x.append(33));
        Check.equal("append(126)", 2, x.append(126));
        doc.promise(11, "Appends a character to the buffer.");
        RingThreads y = new RingThreads();
        y.append('a');
        y.append('4');
        y.append('2');
        y.load();
        Check.equal("the characters in their order", "420000000000", row(y, 0));
        doc.promise(11, "Returns the new length of the buffer.");
        RingThreads z = new RingThreads();
        for (int length = 1; length <= 60; length++) {
            Check.equal("append", length, z.append('a'));
        }
        doc.promise(11, "Throws `IllegalArgumentException` if code is not 33 to 126");
        int[] codes = {32, 127, 0, -1, -33, 128, 65536 + 97, 256 + 97, Integer.MIN_VALUE, Integer.MAX_VALUE};
        for (int code : codes) {
            Twins.argument("append(" + code + ")", Rings::busy, w -> w.append(code));
            Twins.argument("append(" + code + ") of the 61st, ahead of the other exception", Rings.typed(FULL),
                w -> w.append(code));
        }
        doc.promise(11, "Throws `IllegalStateException` if the buffer has 60 characters");
        Twins.state("append(33)", Rings.typed(FULL), w -> w.append(33));
        Twins.state("append(126)", Rings.typed(FULL), w -> w.append(126));
    }

    private void clearBuffer() {
        doc.promise(12, "Returns the length that it had.");
        RingThreads x = new RingThreads();
        Check.equal("clearBuffer() of an empty one", 0, x.clearBuffer());
        x.append('~');
        Check.equal("clearBuffer() of one character", 1, x.clearBuffer());
        Check.type(x, FULL);
        Check.equal("clearBuffer() of a full one", 60, x.clearBuffer());
        Check.equal("clearBuffer() again", 0, x.clearBuffer());
        doc.promise(12, "Clears the buffer.");
        Check.equal("append then", 1, x.append('b'));
        Twins.alike("a buffer that was full", y -> {
            Check.type(y, FULL);
            y.clearBuffer();
        }, Rings::fresh);
    }

    private void firstError() {
        doc.promise(13, "the length of the buffer if there is none");
        errorAt("", 0);
        errorAt("a", 1);
        errorAt("a*1" + ";b*1".repeat(14) + ";", 60);
        errorAt(FULL, 60);
        doc.promise(13, "Returns the index of the first character that is a syntax error");
        errorAt("~", 0);
        errorAt("a~", 1);
        errorAt(FULL.substring(0, 59) + "~", 59);
        errorAt(FULL.substring(0, 58) + "~~", 58);
        errorAt("~".repeat(60), 0);
        doc.promise(13, "Finds the first syntax error of the buffer.");
        Consumer<RingThreads> wrong = Rings.typed("a1;;~");
        Twins.alike("firstError changes nothing", wrong.andThen(x -> x.firstError()), wrong);
        RingThreads x = Twins.made(wrong);
        x.clearBuffer();
        Check.equal("firstError() behind clearBuffer", 0, x.firstError());
        Check.load(x, "a1");
        Check.equal("firstError() behind load", 0, x.firstError());
    }

    private void load() {
        doc.promise(14,
            "Makes the greys those that the buffer tells, row by row (a later row of the same letter holds)");
        Check.equal("a star behind digits", "444444444444", row(loaded("b123456789012;b*4", 12), 1));
        Check.equal("digits behind a star", "123333333333", row(loaded("b*3;b12", 12), 1));
        Check.equal("digits behind digits", "521000000000", row(loaded("b321;b52", 3), 1));
        Check.equal("with another row between", "700000000000", row(loaded("b6;c5;b7", 2), 1));
        doc.promise(14, "and clears the buffer");
        Check.equal("the buffer of 60", 0, loaded(FULL, 4 * 11 + 3).clearBuffer());
        Check.equal("append then", 1, loaded("a1", 1).append('a'));
        doc.promise(14, "Returns how many squares have another grey by it.");
        RingThreads x = loaded(Rings.DARK_FACE, 144);
        Check.equal("load of the same", 0, Check.load(x, Rings.DARK_FACE));
        Check.equal("load of one other", 1, Check.load(x, "a*9;l999999999990"));
        Check.equal("load there and back", 0, Check.load(x, "c*1;c*9"));
        Check.equal("load of the same square twice", 1, Check.load(x, "d1;d2"));
        doc.promise(14, "Undoable.");
        Consumer<RingThreads> busy = y -> {
            Rings.busy(y);
            y.clearBuffer();
        };
        Twins.undoable("load", busy, y -> Check.load(y, "a*1;l123456789012"));
        Twins.undoable("load of the same", busy, y -> Check.load(y, "c*5"));
        Twins.undoable("load of 60 characters", Rings::fresh, y -> Check.load(y, FULL));
        RingThreads z = Twins.made(busy);
        Check.load(z, "a1");
        z.undo();
        Check.equal("undo gives no buffer back", 0, z.clearBuffer());
    }

    private void loadRefused() {
        doc.promise(14, "Throws `IllegalArgumentException` if the buffer does not tell a face as a text");
        noFace("");
        noFace("a");
        noFace("a*");
        noFace("a1;");
        noFace(Rings.DARK_FACE + ";");
        noFace(Rings.DARK_FACE + ";m*9");
        noFace(FULL.substring(0, 59) + ";");
        noFace(FULL.substring(0, 59) + "*");
        Twins.argument("load of a face but for its end", Rings::busy, x -> x.load());
        RingThreads x = Twins.made(Rings.typed("l*9;a"));
        Check.equal("the length ahead", 5, x.firstError());
        Check.argument("load of a row and a letter", x, () -> x.load());
        Check.equal("no row of it is taken", 0, x.square(0, 11, 0));
        x.append('1');
        Check.equal("load when it is a face", 13, x.load());
    }
}
