/** Promise 2: 'Answers true; false when i is not 0 .. 7, or w is not 0 .. 15.' */
public final class Promise02WeighBoundsTest {
    private static final Check CHECK = new Check();
    private static final int[] PLACES = {0, 1, 6, 7};
    private static final int[] NO_PLACES = {-1, 8, -8, 256, Known.LOW, Known.HIGH, Known.LOW + 7, Known.HIGH - 7};
    private static final int[] WEIGHTS = {0, 1, 14, 15};
    private static final int[] NO_WEIGHTS = {-1, 16, -16, 256, Known.LOW, Known.HIGH, Known.LOW + 15, Known.HIGH - 15};

    public static void main(String[] args) {
        takesPlaceAndWeight();
        takesTheSameWeightAgain();
        for (int w : WEIGHTS) {
            refuses(NO_PLACES, w);
        }
        for (int w : NO_WEIGHTS) {
            refuses(PLACES, w);
            refuses(NO_PLACES, w);
        }
        CHECK.end();
    }

    private static void takesPlaceAndWeight() {
        for (int i : PLACES) {
            for (int w : WEIGHTS) {
                int[] after = Known.MIXED.clone();
                after[i] = w;
                weighs(i, w, after);
            }
        }
    }

    private static void takesTheSameWeightAgain() {
        for (int i = 0; i < 8; i++) {
            weighs(i, Known.MIXED[i], Known.MIXED);
        }
    }

    /** That one weight becomes w; the others, the tape and what was spent stay. */
    private static void weighs(int i, int w, int[] after) {
        String call = "weigh(" + i + ", " + w + ")";
        TapeCounter x = new TapeCounter();
        for (int j = 0; j < 8; j++) {
            x.weigh(j, Known.MIXED[j]);
        }
        x.feed(0b1101, 4);
        x.draw(3, 1, 0);
        CHECK.due(call, x.weigh(i, w), true);
        for (int j = 0; j < 8; j++) {
            CHECK.due("weight(" + j + ") behind " + call, x.weight(j), after[j]);
        }
        CHECK.due("spent() behind " + call, x.spent(), 1);
        Known.holds(CHECK, x, "101", "behind " + call);
    }

    private static void refuses(int[] places, int w) {
        for (int i : places) {
            Known.leavesEach(CHECK, "weigh(" + i + ", " + w + ")", 0, x -> x.weigh(i, w) ? 1 : 0);
        }
    }
}
