/** Promise 11: work. */
public final class WorkTest {
    private static final Check CHECK = new Check();

    public static void main(String[] args) {
        byHand();
        followsTheWeights();
        refuses();
        changesNothing();
        CHECK.end();
    }

    private static void work(TapeCounter x, int kind, int a, int b, int length, int want) {
        String call = "work(" + kind + ", " + a + ", " + b + ", " + length + ")";
        CHECK.due(call, x.work(kind, a, b, length), want);
    }

    private static void byHand() {
        TapeCounter x = new TapeCounter();
        work(x, 0, 1, 0, 12, 0);
        work(x, 0, 2, 0, 0, 0);
        work(x, 0, 2, 0, 12, 4096);
        // of 3: 6 of the 8 tapes read two bits, and two run out with all three
        work(x, 0, 3, 0, 3, 18);
        work(x, 0, 3, 0, 1, 2);
        work(x, 0, 64, 0, 12, 6 * 4096);
        work(x, 0, 64, 0, 5, 5 * 32);
        // of 6: 6 of the 8 beginnings read three bits, and the rest of the 16 tapes all four
        work(x, 1, 6, 0, 4, 12 * 3 + 4 * 4);
        work(x, 1, 1, 0, 12, 0);
        // a third: half of the tapes read one bit, a quarter two, and the last quarter all three
        work(x, 2, 1, 3, 3, 4 + 2 * 2 + 2 * 3);
        work(x, 2, 0, 3, 12, 0);
        work(x, 2, 3, 3, 12, 0);
        work(x, 2, 1, 2, 12, 4096);
        work(x, 3, 0, 0, 12, 0);
        work(x, 3, 12, 0, 12, 12 * 4096);
        work(x, 3, 12, 0, 11, 11 * 2048);
        work(x, 4, 3, 0, 4, 8 + 4 * 2 + 4 * 3);
        work(x, 4, 12, 0, 2, 2 + 2 * 2);
        work(x, 5, 1, 0, 12, 0);
        work(x, 5, 3, 0, 3, 24);
        work(x, 5, 3, 0, 4, 12 * 3 + 4 * 4);
        work(x, 6, 2, 1, 12, 4096);
        work(x, 6, 6, 6, 12, 0);
    }

    private static void followsTheWeights() {
        TapeCounter x = new TapeCounter();
        work(x, 7, 0, 0, 4, 48);
        x.weigh(0, 0);
        work(x, 7, -9, 99, 4, 14 * 3 + 2 * 4);
        for (int i = 0; i < 8; i++) {
            x.weigh(i, 9);
        }
        work(x, 7, 0, 0, 3, TapeCounter.NONE);
        for (int i = 0; i < 8; i++) {
            x.weigh(i, 0);
        }
        work(x, 7, 0, 0, 3, TapeCounter.NONE);
        x.weigh(6, 1);
        work(x, 7, 0, 0, 12, 0);
    }

    private static void refuses() {
        TapeCounter x = new TapeCounter();
        for (int length : new int[] {-1, 13, 14, 32, 64, Integer.MIN_VALUE, Integer.MAX_VALUE}) {
            for (int kind = 0; kind <= 7; kind++) {
                work(x, kind, 3, 3, length, TapeCounter.NONE);
            }
        }
        for (int[] call : NoSamplers.ALL) {
            work(x, call[0], call[1], call[2], 3, TapeCounter.NONE);
        }
    }

    private static void changesNothing() {
        TapeCounter x = new TapeCounter();
        x.feed(0b110100, 6);
        x.draw(3, 1, 0);
        work(x, 0, 6, 0, 12, 16320);
        CHECK.due("left()", x.left(), 5);
        CHECK.due("spent()", x.spent(), 1);
        CHECK.due("draw(0, 32, 0)", x.draw(0, 32, 0), 0b10100);
    }
}
