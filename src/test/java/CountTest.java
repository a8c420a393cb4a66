/** Promise 9: count. */
public final class CountTest {
    private static final Check CHECK = new Check();

    public static void main(String[] args) {
        byHand();
        tossesAreBinomial();
        neverGiven();
        followsTheWeights();
        refuses();
        changesNothing();
        CHECK.end();
    }

    private static void count(TapeCounter x, int kind, int a, int b, int length, int value, int want) {
        String call = "count(" + kind + ", " + a + ", " + b + ", " + length + ", " + value + ")";
        CHECK.due(call, x.count(kind, a, b, length, value), want);
    }

    private static void byHand() {
        TapeCounter x = new TapeCounter();
        count(x, 0, 1, 0, 0, 0, 1);
        count(x, 0, 1, 0, 12, 0, 4096);
        // of 3: 01, 1101 and 111101 begin 16, 4 and 1 of the 64 tapes
        count(x, 0, 3, 0, 6, 1, 21);
        count(x, 0, 3, 0, 7, 1, 42);
        count(x, 0, 64, 0, 5, 0, 0);
        count(x, 0, 64, 0, 6, 63, 1);
        count(x, 1, 6, 0, 3, 5, 1);
        // of 6: 101 begins 4 of the 32 tapes; 111 makes 7 of 8, less 6 is 1 of 2, and 01 makes it 5
        count(x, 1, 6, 0, 5, 5, 5);
        // a third is 0.0101..: 00 and 0100 give 1
        count(x, 2, 1, 3, 4, 1, 5);
        count(x, 2, 1, 3, 4, 0, 10);
        count(x, 2, 0, 3, 4, 0, 16);
        count(x, 2, 3, 3, 12, 1, 4096);
        count(x, 4, 3, 0, 5, 0, 16);
        count(x, 4, 3, 0, 5, 3, 4);
        count(x, 4, 12, 0, 12, 12, 1);
        count(x, 5, 3, 0, 3, 5, 1);
        count(x, 5, 3, 0, 5, 5, 5);
        count(x, 5, 4, 0, 5, 23, 1);
        count(x, 6, 2, 1, 1, 1, 1);
        count(x, 6, 2, 1, 1, 2, 1);
        count(x, 6, 4, 4, 0, 15, 1);
    }

    private static void tossesAreBinomial() {
        TapeCounter x = new TapeCounter();
        int ways = 1;
        for (int ones = 0; ones <= 12; ones++) {
            count(x, 3, 12, 0, 12, ones, ways);
            count(x, 3, 12, 0, 11, ones, 0);
            ways = ways * (12 - ones) / (ones + 1);
        }
        count(x, 3, 2, 0, 12, 1, 2048);
    }

    private static void neverGiven() {
        TapeCounter x = new TapeCounter();
        for (int value : new int[] {-1, -2, 64, 65, Integer.MIN_VALUE, Integer.MAX_VALUE}) {
            for (int kind = 0; kind <= 7; kind++) {
                for (int length = 0; length <= 12; length += 4) {
                    count(x, kind, 3, 3, length, value, 0);
                }
            }
        }
        count(x, 0, 6, 0, 12, 6, 0);
        count(x, 2, 1, 3, 12, 2, 0);
        count(x, 6, 3, 2, 12, 7, 0);
    }

    private static void followsTheWeights() {
        TapeCounter x = new TapeCounter();
        count(x, 7, 0, 0, 4, 3, 2);
        x.weigh(3, 0);
        x.weigh(4, 2);
        count(x, 7, 9, -9, 4, 3, 0);
        count(x, 7, 0, 0, 4, 4, 4);
        for (int i = 0; i < 8; i++) {
            x.weigh(i, 0);
        }
        count(x, 7, 0, 0, 4, 3, TapeCounter.NONE);
        x.weigh(3, 3);
        count(x, 7, 0, 0, 4, 3, 15);
        for (int i = 0; i < 8; i++) {
            x.weigh(i, 9);
        }
        count(x, 7, 0, 0, 4, 3, TapeCounter.NONE);
    }

    private static void refuses() {
        TapeCounter x = new TapeCounter();
        for (int length : new int[] {-1, 13, 14, 32, 64, Integer.MIN_VALUE, Integer.MAX_VALUE}) {
            for (int kind = 0; kind <= 7; kind++) {
                count(x, kind, 3, 3, length, 0, TapeCounter.NONE);
            }
        }
        for (int[] call : NoSamplers.ALL) {
            count(x, call[0], call[1], call[2], 3, 0, TapeCounter.NONE);
        }
    }

    private static void changesNothing() {
        TapeCounter x = new TapeCounter();
        x.feed(0b110100, 6);
        x.draw(3, 1, 0);
        count(x, 0, 6, 0, 12, 1, 680);
        count(x, 5, 4, 0, 12, 1, x.count(5, 4, 0, 12, 1));
        CHECK.due("left()", x.left(), 5);
        CHECK.due("spent()", x.spent(), 1);
        CHECK.due("draw(0, 32, 0)", x.draw(0, 32, 0), 0b10100);
    }
}
