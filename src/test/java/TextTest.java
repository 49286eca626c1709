/** Promises 11 to 14: the buffer and faces as texts. */
final class TextTest {
    private TextTest() {
    }

    public static void main(String[] args) {
        appended();
        errors();
        loaded();
        laterRowsHold();
        notLoaded();
        Check.end();
    }

    private static void appended() {
        RingThreads x = new RingThreads();
        Check.argument("append(32)", x, () -> x.append(32));
        Check.argument("append(127)", x, () -> x.append(127));
        Check.argument("append(-33)", x, () -> x.append(-33));
        Check.argument("append(65536 + 97)", x, () -> x.append(65536 + 97));
        Check.equal("append(33)", 1, x.append(33));
        Check.equal("append(126)", 2, x.append(126));
        for (int length = 3; length <= 60; length++) {
            Check.equal("append('a')", length, x.append('a'));
        }
        Check.state("append of the 61st", x, () -> x.append('a'));
        Check.argument("append(127) of the 61st", x, () -> x.append(127));
        Check.equal("append is not undoable", 0, x.count(12));
        Check.equal("clearBuffer()", 60, x.clearBuffer());
        Check.equal("clearBuffer() again", 0, x.clearBuffer());
        Check.equal("clearBuffer is not undoable", 0, x.count(12));
    }

    private static void errorAt(String text, int due) {
        RingThreads x = new RingThreads();
        Check.type(x, text);
        Check.equal("firstError() of " + text, due, x.firstError());
        Check.equal("firstError() changes nothing", text.length(), x.clearBuffer());
    }

    private static void errors() {
        errorAt("", 0);
        errorAt("a", 1);
        errorAt("l0", 2);
        errorAt("m0", 0);
        errorAt("A0", 0);
        errorAt("0", 0);
        errorAt(";", 0);
        errorAt("*5", 0);
        errorAt("aa", 1);
        errorAt("a;", 1);
        errorAt("a*", 2);
        errorAt("a**", 2);
        errorAt("a*;", 2);
        errorAt("a*a", 2);
        errorAt("a*5", 3);
        errorAt("a*55", 3);
        errorAt("a*5*", 3);
        errorAt("a*5;", 4);
        errorAt("a*5;;", 4);
        errorAt("a5*", 2);
        errorAt("a5b", 2);
        errorAt("a5;b", 4);
        errorAt("a5;5", 3);
        errorAt("a012345678901", 13);
        errorAt("a0123456789012", 13);
        errorAt("a012345678901;b*7;a9", 20);
        errorAt("a012345678901*", 13);
        errorAt("a5:", 2);
        errorAt("a5/", 2);
        errorAt("a*:", 2);
        errorAt("a5;`", 3);
        errorAt("b2;x;y", 3);
        errorAt("a123456789012;b123456789012;c123456789012;d123456789012;e123", 60);
    }

    private static void greys(RingThreads x, int y, String due) {
        StringBuilder got = new StringBuilder();
        for (int column = 0; column < 12; column++) {
            got.append(x.square(column, y, 0));
        }
        Check.equal("row " + y, due, got.toString());
    }

    private static void loaded() {
        RingThreads x = new RingThreads();
        Check.equal("load of two rows", 3 + 12, Check.load(x, "a1203;l*7"));
        greys(x, 0, "120300000000");
        greys(x, 1, "000000000000");
        greys(x, 11, "777777777777");
        Check.equal("the buffer is clear", 0, x.clearBuffer());
        Check.equal("undoable", 1, x.count(12));
        Check.equal("load of the same", 0, Check.load(x, "l*7;a12"));
        Check.equal("load of all of a row", 12, Check.load(x, "d123456789123"));
        greys(x, 3, "123456789123");
        x.undo();
        greys(x, 3, "000000000000");
        Check.equal("undo gives no buffer back", 0, x.clearBuffer());
        Check.equal("misfit", 2 * (6 + 84), x.count(7));
    }

    private static void laterRowsHold() {
        RingThreads x = new RingThreads();
        Check.equal("load", 12, Check.load(x, "b*5;b12"));
        greys(x, 1, "125555555555");
        Check.equal("load back and forth counts once at most", 1, Check.load(x, "b9999;b1255;b3"));
        greys(x, 1, "325555555555");
        Check.equal("load there and back", 0, Check.load(x, "b*0;b325555555555"));
        Check.equal("load", 12, Check.load(x, "b123456789012;b*4"));
        greys(x, 1, "444444444444");
    }

    private static void notLoaded() {
        for (String text : new String[] {"", "a", "a*", "a5;", "a*5;b", "m5", "a0123456789012", "a5;b*", "a5;5", "~"}) {
            RingThreads x = new RingThreads();
            x.want(0, 0, 9);
            Check.type(x, text);
            Check.argument("load of " + text, x, () -> x.load());
            Check.equal("the buffer stays", text.length(), x.clearBuffer());
        }
    }
}
