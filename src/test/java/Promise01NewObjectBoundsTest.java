/** Promise 1: 'An empty tape; all weights 1.' */
public final class Promise01NewObjectBoundsTest {
    private static final Check CHECK = new Check();

    public static void main(String[] args) {
        hasAnEmptyTape();
        hasWeightsOfOne();
        isNewBesideOthers();
        CHECK.end();
    }

    private static void hasAnEmptyTape() {
        TapeCounter x = new TapeCounter();
        CHECK.due("left()", x.left(), 0);
        CHECK.due("spent()", x.spent(), 0);
        CHECK.due("draw(3, 0, 0), which needs no bit", x.draw(3, 0, 0), 0);
        CHECK.due("draw(3, 1, 0), which needs one", x.draw(3, 1, 0), TapeCounter.NONE);
        CHECK.due("feed(0, 0)", x.feed(0, 0), 0);
        CHECK.due("feed(1, 1)", x.feed(1, 1), 1);
        Known.holds(CHECK, x, "1", "of a new object and one bit");
    }

    private static void hasWeightsOfOne() {
        TapeCounter x = new TapeCounter();
        CHECK.due("weight(-1)", x.weight(-1), TapeCounter.NONE);
        for (int i = 0; i <= 7; i++) {
            CHECK.due("weight(" + i + ")", x.weight(i), 1);
        }
        CHECK.due("weight(8)", x.weight(8), TapeCounter.NONE);
        // eight weights of 1 need just three bits, and none begins anew
        CHECK.due("fails(7, 0, 0, 2)", x.fails(7, 0, 0, 2), 4);
        CHECK.due("fails(7, 0, 0, 3)", x.fails(7, 0, 0, 3), 0);
    }

    /** A new object is new whatever was done with others, and leaves them as they are. */
    private static void isNewBesideOthers() {
        new Known(CHECK, Known.MAKE_120, Known.mixedBits(256), 12).leaves("a new object beside it", 1, x -> {
            hasAnEmptyTape();
            hasWeightsOfOne();
            return 1;
        });
    }
}
