/**
 * Promise 12: 'The least length, 0 .. 12, of a tape on which it gives a value; 13 when none is so
 * short, or it never does; NONE when there is no such sampler.'
 */
public final class Promise12FirstBoundsTest {
    private static final Check CHECK = new Check();

    public static void main(String[] args) {
        atNoBit();
        atTheMostBits();
        neverDoes();
        isWhereCountBegins();
        ofNoSampler();
        ofNoShares();
        CHECK.end();
    }

    private static void first(int kind, int a, int b, int value, int want) {
        String name = "first(" + kind + ", " + a + ", " + b + ", " + value + ")";
        Known.leavesEach(CHECK, name, want, x -> x.first(kind, a, b, value));
    }

    private static void atNoBit() {
        for (int[] call : EdgeSamplers.ALL) {
            if (call[4] == 0) {
                first(call[0], call[1], call[2], call[3], 0);
            }
        }
        first(0, 2, 0, 0, 1);
        first(2, 1, 2, 0, 1);
        first(3, 1, 0, 0, 1);
        first(5, 2, 0, 0, 1);
        first(6, 2, 1, 1, 1);
    }

    private static void atTheMostBits() {
        for (int value = 0; value <= 12; value++) {
            first(3, 12, 0, value, 12);
            first(3, 11, 0, value, value <= 11 ? 11 : 13);
            first(4, 12, 0, value, Math.min(value + 1, 12));
            first(4, 11, 0, value, value <= 11 ? Math.min(value + 1, 11) : 13);
        }
        first(3, 12, 0, 13, 13);
        first(4, 12, 0, 13, 13);
    }

    private static void neverDoes() {
        for (int[] call : EdgeSamplers.ALL) {
            for (int value : new int[] {-1, -2, 64, Known.LOW, Known.HIGH}) {
                CHECK.due("first of kind " + call[0] + " and the value " + value,
                    new TapeCounter().first(call[0], call[1], call[2], value), 13);
            }
        }
        for (int a = 1; a <= 64; a++) {
            int bits = 32 - Integer.numberOfLeadingZeros(a - 1);
            for (int kind = 0; kind <= 1; kind++) {
                first(kind, a, 0, a - 1, bits);
                first(kind, a, 0, a, 13);
            }
        }
        first(2, 0, 64, 1, 13);
        first(2, 64, 64, 0, 13);
        first(2, 1, 64, 2, 13);
        first(5, 3, 0, 5, 3);
        first(5, 3, 0, 6, 13);
        first(5, 4, 0, 23, 5);
        first(5, 4, 0, 24, 13);
        first(6, 6, 6, 62, 13);
        first(6, 2, 1, 0, 13);
        first(6, 2, 1, 3, 13);
    }

    /** The value comes on a tape of that length, and on none that is shorter. */
    private static void isWhereCountBegins() {
        for (int[] call : EdgeSamplers.ALL) {
            for (int value = 0; value <= 63; value++) {
                TapeCounter x = new TapeCounter();
                int least = x.first(call[0], call[1], call[2], value);
                String name = "(" + call[0] + ", " + call[1] + ", " + call[2] + ", " + value + ")";
                for (int length = 0; length <= 12; length++) {
                    boolean comes = x.count(call[0], call[1], call[2], length, value) > 0;
                    CHECK.due("count at " + length + " and first of " + name, comes, length >= least);
                }
            }
        }
    }

    private static void ofNoSampler() {
        for (int[] call : NoSamplers.ALL) {
            for (int value : new int[] {0, 1, -1, Known.LOW, Known.HIGH}) {
                first(call[0], call[1], call[2], value, TapeCounter.NONE);
            }
        }
    }

    private static void ofNoShares() {
        ofShares(Known.MAKE_0, 0, TapeCounter.NONE);
        ofShares(Known.MAKE_1, 7, 0);
        ofShares(Known.MAKE_1, 0, 13);
        ofShares(Known.ONES, 7, 3);
        ofShares(Known.ONES, 8, 13);
        ofShares(Known.MAKE_64, 4, 6);
        ofShares(Known.MAKE_64, 5, 13);
        ofShares(Known.MAKE_65, 0, TapeCounter.NONE);
        ofShares(Known.MAKE_120, 0, TapeCounter.NONE);
    }

    private static void ofShares(int[] weights, int value, int want) {
        String name = "first(7, 0, 0, " + value + ") of " + java.util.Arrays.toString(weights);
        new Known(CHECK, weights, "0101", 2).leaves(name, want, x -> x.first(7, Known.LOW, Known.HIGH, value));
    }
}
