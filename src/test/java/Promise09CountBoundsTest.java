/** Promise 9: 'tapes of so many (0 .. 12) bits'; 'NONE when there is no such sampler, or length.' */
public final class Promise09CountBoundsTest {
    private static final Check CHECK = new Check();
    private static final int[] NO_LENGTHS = {-1, 13, -12, 32, 64, Known.LOW, Known.HIGH, Known.LOW + 12, Known.HIGH - 12};
    private static final int[] NO_VALUES = {-1, -2, 64, Known.LOW, Known.HIGH};

    public static void main(String[] args) {
        onTheEmptyTape();
        onTheLongestTapes();
        everyTapeIsCountedOnce();
        ofNoLength();
        ofNoSampler();
        ofNoShares();
        ofValuesThatNeverCome();
        CHECK.end();
    }

    private static void count(int[] call, int length, int value, int want) {
        String name = "count(" + call[0] + ", " + call[1] + ", " + call[2] + ", " + length + ", " + value + ")";
        TapeCounter x = new TapeCounter();
        CHECK.due(name, x.count(call[0], call[1], call[2], length, value), want);
        CHECK.due(name + " once more", x.count(call[0], call[1], call[2], length, value), want);
    }

    /** There is one tape of no bit; it does for those alone that need none. */
    private static void onTheEmptyTape() {
        for (int[] call : EdgeSamplers.ALL) {
            count(call, 0, call[3], call[4] == 0 ? 1 : 0);
            count(call, 0, call[3] + 1, 0);
        }
    }

    private static void onTheLongestTapes() {
        count(new int[] {0, 1, 0}, 12, 0, 4096);
        count(new int[] {0, 64, 0}, 12, 63, 64);
        // what gives it may leave 10, 8, 6, 4, 2 or 0 bits that are free
        count(new int[] {0, 3, 0}, 12, 2, 1024 + 256 + 64 + 16 + 4 + 1);
        count(new int[] {1, 3, 0}, 12, 2, 1024 + 256 + 64 + 16 + 4 + 1);
        count(new int[] {2, 1, 3}, 12, 1, 1024 + 256 + 64 + 16 + 4 + 1);
        count(new int[] {2, 1, 3}, 12, 0, 2048 + 512 + 128 + 32 + 8 + 2);
        count(new int[] {3, 12, 0}, 12, 12, 1);
        count(new int[] {3, 12, 0}, 12, 6, 924);
        count(new int[] {3, 12, 0}, 11, 6, 0);
        count(new int[] {4, 12, 0}, 12, 12, 1);
        count(new int[] {4, 12, 0}, 12, 11, 1);
        count(new int[] {4, 12, 0}, 11, 11, 0);
        count(new int[] {4, 12, 0}, 11, 10, 1);
        count(new int[] {6, 6, 6}, 12, 63, 4096);
        count(new int[] {7, 0, 0}, 12, 7, 512);
    }

    /** All values together, and the tapes that are too short, make all tapes of the length. */
    private static void everyTapeIsCountedOnce() {
        for (int[] call : EdgeSamplers.ALL) {
            for (int length = 0; length <= 12; length++) {
                TapeCounter x = new TapeCounter();
                int sum = x.fails(call[0], call[1], call[2], length);
                for (int value = 0; value <= 63; value++) {
                    sum += x.count(call[0], call[1], call[2], length, value);
                }
                String name = "(" + call[0] + ", " + call[1] + ", " + call[2] + ", " + length + ")";
                CHECK.due("all that count and fails make of " + name, sum, 1 << length);
            }
        }
    }

    private static void ofNoLength() {
        for (int length : NO_LENGTHS) {
            for (int[] call : EdgeSamplers.ALL) {
                count(call, length, call[3], TapeCounter.NONE);
            }
            for (int value : new int[] {0, -1, Known.LOW, Known.HIGH}) {
                String name = "count(3, 1, 0, " + length + ", " + value + ")";
                Known.leavesEach(CHECK, name, TapeCounter.NONE, x -> x.count(3, 1, 0, length, value));
            }
        }
    }

    private static void ofNoSampler() {
        for (int[] call : NoSamplers.ALL) {
            for (int length : new int[] {0, 12, -1, 13, Known.LOW, Known.HIGH}) {
                String name = "count(" + call[0] + ", " + call[1] + ", " + call[2] + ", " + length + ", 0)";
                Known.leavesEach(CHECK, name, TapeCounter.NONE, x -> x.count(call[0], call[1], call[2], length, 0));
            }
        }
    }

    private static void ofNoShares() {
        for (int[] weights : new int[][] {Known.MAKE_0, Known.MAKE_65, Known.MAKE_120}) {
            for (int length : new int[] {0, 12, -1, 13}) {
                String name = "count(7, 0, 0, " + length + ", 0) of " + java.util.Arrays.toString(weights);
                Known known = new Known(CHECK, weights, "0101", 2);
                known.leaves(name, TapeCounter.NONE, x -> x.count(7, 0, 0, length, 0));
            }
        }
    }

    private static void ofValuesThatNeverCome() {
        for (int[] call : EdgeSamplers.ALL) {
            for (int value : NO_VALUES) {
                count(call, 0, value, 0);
                count(call, 12, value, 0);
            }
        }
        count(new int[] {0, 63, 0}, 12, 63, 0);
        count(new int[] {0, 63, 0}, 12, 62, 64 + 1);
        count(new int[] {2, 1, 2}, 12, 2, 0);
        count(new int[] {3, 11, 0}, 12, 12, 0);
        count(new int[] {3, 11, 0}, 12, 11, 2);
        count(new int[] {4, 11, 0}, 12, 12, 0);
        count(new int[] {4, 11, 0}, 12, 11, 2);
        count(new int[] {5, 2, 0}, 12, 2, 0);
        count(new int[] {5, 2, 0}, 12, 1, 2048);
        count(new int[] {6, 2, 1}, 12, 3, 0);
        count(new int[] {6, 2, 1}, 12, 0, 0);
        count(new int[] {6, 2, 1}, 12, 2, 2048);
        count(new int[] {7, 0, 0}, 12, 8, 0);
    }
}
