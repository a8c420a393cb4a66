/** Promise 12: first. */
public final class FirstTest {
    private static final Check CHECK = new Check();

    public static void main(String[] args) {
        byHand();
        neverGiven();
        followsTheWeights();
        refuses();
        changesNothing();
        CHECK.end();
    }

    private static void first(TapeCounter x, int kind, int a, int b, int value, int want) {
        String call = "first(" + kind + ", " + a + ", " + b + ", " + value + ")";
        CHECK.due(call, x.first(kind, a, b, value), want);
    }

    private static void byHand() {
        TapeCounter x = new TapeCounter();
        first(x, 0, 1, 0, 0, 0);
        first(x, 0, 2, 0, 1, 1);
        first(x, 0, 5, 0, 4, 3);
        first(x, 0, 64, 0, 63, 6);
        first(x, 1, 1, 0, 0, 0);
        first(x, 1, 33, 0, 32, 6);
        first(x, 2, 0, 7, 0, 0);
        first(x, 2, 7, 7, 1, 0);
        // a third is 0.01..: the first 1 gives 0, 00 gives 1
        first(x, 2, 1, 3, 0, 1);
        first(x, 2, 1, 3, 1, 2);
        // a 64th is 0.000001: 000000 alone gives 1
        first(x, 2, 1, 64, 1, 6);
        first(x, 2, 63, 64, 0, 6);
        first(x, 3, 12, 0, 5, 12);
        first(x, 4, 12, 0, 0, 1);
        first(x, 4, 12, 0, 11, 12);
        first(x, 4, 12, 0, 12, 12);
        first(x, 4, 0, 0, 0, 0);
        first(x, 5, 1, 0, 0, 0);
        first(x, 5, 3, 0, 0, 3);
        first(x, 5, 4, 0, 23, 5);
        first(x, 6, 6, 0, 0, 0);
        first(x, 6, 6, 6, 63, 0);
        first(x, 6, 2, 1, 2, 1);
        // 2 of 3: 1 and 1 leave out the first, then 2 of 2 are taken without a bit
        first(x, 6, 3, 2, 6, 2);
    }

    private static void neverGiven() {
        TapeCounter x = new TapeCounter();
        for (int value : new int[] {-1, -2, 64, 65, Integer.MIN_VALUE, Integer.MAX_VALUE}) {
            for (int kind = 0; kind <= 7; kind++) {
                first(x, kind, 3, 3, value, 13);
            }
        }
        first(x, 0, 6, 0, 6, 13);
        first(x, 2, 0, 7, 1, 13);
        first(x, 2, 7, 7, 0, 13);
        first(x, 3, 4, 0, 5, 13);
        first(x, 4, 4, 0, 5, 13);
        first(x, 5, 3, 0, 6, 13);
        first(x, 6, 3, 2, 7, 13);
    }

    private static void followsTheWeights() {
        TapeCounter x = new TapeCounter();
        first(x, 7, 0, 0, 7, 3);
        x.weigh(7, 0);
        first(x, 7, -9, 99, 7, 13);
        x.weigh(6, 15);
        first(x, 7, 0, 0, 6, 5);
        for (int i = 0; i < 8; i++) {
            x.weigh(i, 0);
        }
        first(x, 7, 0, 0, 6, TapeCounter.NONE);
        x.weigh(6, 1);
        first(x, 7, 0, 0, 6, 0);
        for (int i = 0; i < 8; i++) {
            x.weigh(i, 9);
        }
        first(x, 7, 0, 0, 6, TapeCounter.NONE);
    }

    private static void refuses() {
        TapeCounter x = new TapeCounter();
        for (int[] call : NoSamplers.ALL) {
            first(x, call[0], call[1], call[2], 0, TapeCounter.NONE);
        }
    }

    private static void changesNothing() {
        TapeCounter x = new TapeCounter();
        x.feed(0b110100, 6);
        x.draw(3, 1, 0);
        first(x, 1, 6, 0, 5, 3);
        CHECK.due("left()", x.left(), 5);
        CHECK.due("spent()", x.spent(), 1);
        CHECK.due("draw(0, 32, 0)", x.draw(0, 32, 0), 0b10100);
    }
}
