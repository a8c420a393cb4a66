/** Promise 10: 'On how many of all tapes of so many bits it runs out; NONE likewise.' */
public final class Promise10FailsBoundsTest {
    private static final Check CHECK = new Check();
    private static final int[] NO_LENGTHS = {-1, 13, -12, 32, 64, Known.LOW, Known.HIGH, Known.LOW + 12, Known.HIGH - 12};

    public static void main(String[] args) {
        onTheEmptyTape();
        onTheLongestTapes();
        oneBitIsTheDifference();
        ofNoLength();
        ofNoSampler();
        ofNoShares();
        CHECK.end();
    }

    private static void fails(int kind, int a, int b, int length, int want) {
        String name = "fails(" + kind + ", " + a + ", " + b + ", " + length + ")";
        TapeCounter x = new TapeCounter();
        CHECK.due(name, x.fails(kind, a, b, length), want);
        CHECK.due(name + " once more", x.fails(kind, a, b, length), want);
    }

    private static void onTheEmptyTape() {
        for (int[] call : EdgeSamplers.ALL) {
            fails(call[0], call[1], call[2], 0, call[4] == 0 ? 0 : 1);
        }
    }

    private static void onTheLongestTapes() {
        fails(0, 1, 0, 12, 0);
        fails(0, 3, 0, 12, 1);
        // of 33: 31 of 64 begin anew, and once more
        fails(0, 33, 0, 12, 31 * 31);
        fails(0, 63, 0, 12, 1);
        fails(0, 64, 0, 12, 0);
        fails(1, 3, 0, 12, 1);
        fails(1, 63, 0, 12, 1);
        fails(1, 64, 0, 12, 0);
        fails(2, 1, 3, 12, 1);
        fails(2, 1, 64, 12, 0);
        fails(3, 12, 0, 12, 0);
        fails(4, 12, 0, 12, 0);
        fails(5, 2, 0, 12, 0);
        fails(6, 2, 1, 12, 0);
        fails(7, Known.LOW, Known.HIGH, 12, 0);
    }

    private static void oneBitIsTheDifference() {
        for (int k = 1; k <= 6; k++) {
            fails(0, 1 << k, 0, k - 1, 1 << (k - 1));
            fails(0, 1 << k, 0, k, 0);
            fails(1, 1 << k, 0, k - 1, 1 << (k - 1));
            fails(1, 1 << k, 0, k, 0);
            fails(2, 1, 1 << k, k - 1, 1);
            fails(2, 1, 1 << k, k, 0);
        }
        for (int a = 1; a <= 12; a++) {
            fails(3, a, 0, a - 1, 1 << (a - 1));
            fails(3, a, 0, a, 0);
            fails(4, a, 0, a - 1, 1);
            fails(4, a, 0, a, 0);
        }
        fails(5, 4, 0, 4, 16);
        // of 4: any two bits, and then 11 of the two for 3 begins anew
        fails(5, 4, 0, 5, 4 * 2);
        fails(6, 2, 1, 0, 1);
        fails(6, 2, 1, 1, 0);
        fails(7, 0, 0, 2, 4);
        fails(7, 0, 0, 3, 0);
    }

    private static void ofNoLength() {
        for (int length : NO_LENGTHS) {
            for (int[] call : EdgeSamplers.ALL) {
                fails(call[0], call[1], call[2], length, TapeCounter.NONE);
            }
            Known.leavesEach(CHECK, "fails(3, 1, 0, " + length + ")", TapeCounter.NONE, x -> x.fails(3, 1, 0, length));
        }
    }

    private static void ofNoSampler() {
        for (int[] call : NoSamplers.ALL) {
            for (int length : new int[] {0, 12, -1, 13, Known.LOW, Known.HIGH}) {
                String name = "fails(" + call[0] + ", " + call[1] + ", " + call[2] + ", " + length + ")";
                Known.leavesEach(CHECK, name, TapeCounter.NONE, x -> x.fails(call[0], call[1], call[2], length));
            }
        }
    }

    private static void ofNoShares() {
        for (int[] weights : new int[][] {Known.MAKE_0, Known.MAKE_65, Known.MAKE_120}) {
            for (int length : new int[] {0, 12, -1, 13}) {
                String name = "fails(7, 0, 0, " + length + ") of " + java.util.Arrays.toString(weights);
                Known known = new Known(CHECK, weights, "0101", 2);
                known.leaves(name, TapeCounter.NONE, x -> x.fails(7, 0, 0, length));
            }
        }
        new Known(CHECK, Known.MAKE_1, "", 0).leaves("fails(7, 0, 0, 0) of 1", 0, x -> x.fails(7, 0, 0, 0));
        new Known(CHECK, Known.MAKE_64, "", 0).leaves("fails(7, 0, 0, 5) of 64", 32, x -> x.fails(7, 0, 0, 5));
        new Known(CHECK, Known.MAKE_64, "", 0).leaves("fails(7, 0, 0, 6) of 64", 0, x -> x.fails(7, 0, 0, 6));
    }
}
