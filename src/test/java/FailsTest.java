/** Promise 10: fails. */
public final class FailsTest {
    private static final Check CHECK = new Check();

    public static void main(String[] args) {
        byHand();
        followsTheWeights();
        refuses();
        changesNothing();
        CHECK.end();
    }

    private static void fails(TapeCounter x, int kind, int a, int b, int length, int want) {
        String call = "fails(" + kind + ", " + a + ", " + b + ", " + length + ")";
        CHECK.due(call, x.fails(kind, a, b, length), want);
    }

    private static void byHand() {
        TapeCounter x = new TapeCounter();
        fails(x, 0, 1, 0, 0, 0);
        fails(x, 0, 2, 0, 0, 1);
        fails(x, 0, 2, 0, 1, 0);
        // of 3: 11 as often as pairs are whole, and any bit behind
        fails(x, 0, 3, 0, 4, 1);
        fails(x, 0, 3, 0, 5, 2);
        fails(x, 0, 64, 0, 5, 32);
        fails(x, 0, 64, 0, 6, 0);
        fails(x, 1, 1, 0, 0, 0);
        fails(x, 1, 6, 0, 3, 2);
        fails(x, 1, 6, 0, 4, 4);
        fails(x, 1, 6, 0, 5, 2);
        // only the digits of a third run out
        fails(x, 2, 1, 3, 0, 1);
        fails(x, 2, 1, 3, 12, 1);
        fails(x, 2, 0, 3, 0, 0);
        fails(x, 2, 3, 3, 0, 0);
        fails(x, 2, 1, 2, 1, 0);
        fails(x, 3, 12, 0, 11, 2048);
        fails(x, 3, 12, 0, 12, 0);
        fails(x, 4, 12, 0, 11, 1);
        fails(x, 4, 12, 0, 12, 0);
        fails(x, 5, 1, 0, 0, 0);
        fails(x, 5, 3, 0, 2, 4);
        fails(x, 5, 3, 0, 3, 2);
        fails(x, 6, 3, 0, 0, 0);
        fails(x, 6, 2, 1, 0, 1);
        fails(x, 6, 2, 1, 1, 0);
    }

    private static void followsTheWeights() {
        TapeCounter x = new TapeCounter();
        fails(x, 7, 0, 0, 3, 0);
        fails(x, 7, -9, 99, 2, 4);
        x.weigh(0, 0);
        fails(x, 7, 0, 0, 3, 1);
        fails(x, 7, 0, 0, 4, 2);
        for (int i = 0; i < 8; i++) {
            x.weigh(i, 9);
        }
        fails(x, 7, 0, 0, 3, TapeCounter.NONE);
        for (int i = 0; i < 8; i++) {
            x.weigh(i, 0);
        }
        fails(x, 7, 0, 0, 3, TapeCounter.NONE);
    }

    private static void refuses() {
        TapeCounter x = new TapeCounter();
        for (int length : new int[] {-1, 13, 14, 32, 64, Integer.MIN_VALUE, Integer.MAX_VALUE}) {
            for (int kind = 0; kind <= 7; kind++) {
                fails(x, kind, 3, 3, length, TapeCounter.NONE);
            }
        }
        for (int[] call : NoSamplers.ALL) {
            fails(x, call[0], call[1], call[2], 3, TapeCounter.NONE);
        }
    }

    private static void changesNothing() {
        TapeCounter x = new TapeCounter();
        x.feed(0b110100, 6);
        x.draw(3, 1, 0);
        fails(x, 0, 6, 0, 12, 16);
        CHECK.due("left()", x.left(), 5);
        CHECK.due("spent()", x.spent(), 1);
        CHECK.due("draw(0, 32, 0)", x.draw(0, 32, 0), 0b10100);
    }
}
