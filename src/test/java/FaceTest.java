/** Promises 9, 10 and 22: the wanted face and the squares. */
final class FaceTest {
    private FaceTest() {
    }

    public static void main(String[] args) {
        wanted();
        turned();
        mirrored();
        opposite();
        squares();
        Check.end();
    }

    private static void wanted() {
        RingThreads x = new RingThreads();
        Check.equal("want(11, 3, 9)", 0, x.want(11, 3, 9));
        Check.equal("want(11, 3, 4)", 9, x.want(11, 3, 4));
        Check.equal("grey", 4, x.square(11, 3, 0));
        Check.equal("want(11, 3, 0)", 4, x.want(11, 3, 0));
        Check.equal("want(11, 3, 4)", 0, x.want(11, 3, 4));
        Check.equal("the other way is another square", 0, x.square(3, 11, 0));
        x.undo();
        x.undo();
        x.undo();
        Check.equal("grey behind undo", 9, x.square(11, 3, 0));
        Check.outside("want(12, 0, 10)", x, () -> x.want(12, 0, 10));
        Check.outside("want(0, 12, 0)", x, () -> x.want(0, 12, 0));
        Check.outside("want(-1, 0, 0)", x, () -> x.want(-1, 0, 0));
        Check.outside("want(0, -1, 0)", x, () -> x.want(0, -1, 0));
        Check.argument("want(0, 0, 10)", x, () -> x.want(0, 0, 10));
        Check.argument("want(0, 0, -1)", x, () -> x.want(0, 0, -1));
    }

    private static RingThreads threeGreys() {
        RingThreads x = new RingThreads();
        x.want(0, 0, 1);
        x.want(2, 0, 2);
        x.want(5, 7, 3);
        return x;
    }

    private static void turned() {
        RingThreads x = threeGreys();
        Check.equal("turnFace(0)", 12, x.turnFace(0));
        Check.equal("(0, 0) goes to (11, 0)", 1, x.square(11, 0, 0));
        Check.equal("(2, 0) goes to (11, 2)", 2, x.square(11, 2, 0));
        Check.equal("(5, 7) goes to (4, 5)", 3, x.square(4, 5, 0));
        Check.equal("(5, 7) then", 0, x.square(5, 7, 0));
        x.undo();
        Check.equal("(5, 7) behind undo", 3, x.square(5, 7, 0));
        RingThreads y = threeGreys();
        for (int i = 0; i < 4; i++) {
            y.turnFace(0);
        }
        Check.equal("four quarters: (5, 7)", 3, y.square(5, 7, 0));
        Check.argument("turnFace(3)", x, () -> x.turnFace(3));
        Check.argument("turnFace(-1)", x, () -> x.turnFace(-1));
    }

    private static void mirrored() {
        RingThreads x = threeGreys();
        Check.equal("turnFace(1)", 12, x.turnFace(1));
        Check.equal("(0, 0) goes to (11, 0)", 1, x.square(11, 0, 0));
        Check.equal("(2, 0) goes to (9, 0)", 2, x.square(9, 0, 0));
        Check.equal("(5, 7) goes to (6, 7)", 3, x.square(6, 7, 0));
    }

    private static void opposite() {
        RingThreads x = threeGreys();
        Check.equal("turnFace(2)", 2 * (144 * 9 - 6), x.turnFace(2));
        Check.equal("(0, 0)", 8, x.square(0, 0, 0));
        Check.equal("(11, 11)", 9, x.square(11, 11, 0));
        x.wind(6);
        Check.equal("turnFace(2), with a chord", 10 + 2 + 12, x.turnFace(2));
        Check.equal("darkness stays", 1, x.square(5, 6, 1));
    }

    private static void squares() {
        RingThreads x = new RingThreads();
        x.want(3, 6, 2);
        x.spool(1, 9, 2000);
        x.wind(6);
        x.knot(1);
        x.set(1, 2);
        x.wind(0);
        int[] due = {2, 10, 9994, 2};
        for (int what = 0; what <= 3; what++) {
            Check.equal("square(3, 6, " + what + ")", due[what], x.square(3, 6, what));
            Check.equal("square(6, 3, " + what + ")", what == 2 ? 10000 : 0, x.square(6, 3, what));
        }
        Check.outside("square(12, 0, 4)", x, () -> x.square(12, 0, 4));
        Check.outside("square(0, 12, 0)", x, () -> x.square(0, 12, 0));
        Check.outside("square(-1, 0, 0)", x, () -> x.square(-1, 0, 0));
        Check.outside("square(0, -1, 0)", x, () -> x.square(0, -1, 0));
        Check.argument("square(0, 0, 4)", x, () -> x.square(0, 0, 4));
        Check.argument("square(0, 0, -1)", x, () -> x.square(0, 0, -1));
    }
}
