import java.util.List;

/** Promises 9 to 12 against the model: every sampler of kinds 0 .. 6, and SHARES of some weights. */
public final class AllSamplersTest {
    private static final Check CHECK = new Check();
    private static final int MOST_VALUE = 63;
    private static final int[] ONES = {1, 1, 1, 1, 1, 1, 1, 1};

    public static void main(String[] args) {
        for (int kind = 0; kind <= 6; kind++) {
            for (int a = 0; a <= 64; a++) {
                for (int b = 0; b <= 64; b++) {
                    boolean namesB = kind == 2 || kind == 6;
                    if ((namesB || b == 0) && new Model().isOne(kind, a, b)) {
                        compare(ONES, kind, a, b);
                    }
                }
            }
        }
        int[][] weights = {ONES, {0, 0, 0, 0, 0, 0, 0, 1}, {15, 15, 15, 15, 4, 0, 0, 0},
            {0, 3, 0, 5, 1, 0, 9, 0}, {8, 8, 8, 8, 8, 8, 8, 8}, {2, 0, 0, 1, 0, 0, 0, 0}, {15, 0, 15, 0, 3, 0, 0, 0}};
        for (int[] row : weights) {
            compare(row, 7, 0, 0);
        }
        CHECK.end();
    }

    private static TapeCounter weighed(int[] weights) {
        TapeCounter x = new TapeCounter();
        for (int i = 0; i < 8; i++) {
            x.weigh(i, weights[i]);
        }
        return x;
    }

    private static void compare(int[] weights, int kind, int a, int b) {
        Model y = new Model();
        for (int i = 0; i < 8; i++) {
            y.weigh(i, weights[i]);
        }
        int[] shortest = new int[MOST_VALUE + 1];
        java.util.Arrays.fill(shortest, 13);
        for (int length = 0; length <= 12; length++) {
            List<Model.Outcome> outcomes = y.onAll(kind, a, b, length);
            // one for each length: no object is promised anything behind its 512th call
            compareTapes(weighed(weights), outcomes, kind, a, b, length);
            for (Model.Outcome outcome : outcomes) {
                if (outcome.value() != Model.NONE) {
                    shortest[outcome.value()] = Math.min(shortest[outcome.value()], length);
                }
            }
        }
        TapeCounter x = weighed(weights);
        String call = kind + ", " + a + ", " + b;
        for (int value = 0; value <= MOST_VALUE; value++) {
            CHECK.due("first(" + call + ", " + value + ")", x.first(kind, a, b, value), shortest[value]);
        }
    }

    private static void compareTapes(TapeCounter x, List<Model.Outcome> outcomes, int kind, int a, int b, int length) {
        int[] hits = new int[MOST_VALUE + 1];
        int fails = 0;
        int work = 0;
        for (Model.Outcome outcome : outcomes) {
            work += outcome.read();
            if (outcome.value() == Model.NONE) {
                fails++;
            } else {
                hits[outcome.value()]++;
            }
        }
        String call = kind + ", " + a + ", " + b + ", " + length;
        CHECK.due("fails(" + call + ")", x.fails(kind, a, b, length), fails);
        CHECK.due("work(" + call + ")", x.work(kind, a, b, length), work);
        for (int value = 0; value <= MOST_VALUE; value++) {
            CHECK.due("count(" + call + ", " + value + ")", x.count(kind, a, b, length, value), hits[value]);
        }
    }
}
