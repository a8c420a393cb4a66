/** Promise 11: 'those on which it runs out counted with all of theirs; NONE likewise.' */
public final class Promise11WorkBoundsTest {
    private static final Check CHECK = new Check();
    private static final int[] NO_LENGTHS = {-1, 13, -12, 32, 64, Known.LOW, Known.HIGH, Known.LOW + 12, Known.HIGH - 12};

    public static void main(String[] args) {
        onTheEmptyTape();
        onTheLongestTapes();
        runOutTapesCountWhole();
        ofNoLength();
        ofNoSampler();
        ofNoShares();
        CHECK.end();
    }

    private static void work(int kind, int a, int b, int length, int want) {
        String name = "work(" + kind + ", " + a + ", " + b + ", " + length + ")";
        TapeCounter x = new TapeCounter();
        CHECK.due(name, x.work(kind, a, b, length), want);
        CHECK.due(name + " once more", x.work(kind, a, b, length), want);
    }

    private static void onTheEmptyTape() {
        for (int[] call : EdgeSamplers.ALL) {
            work(call[0], call[1], call[2], 0, 0);
        }
    }

    private static void onTheLongestTapes() {
        work(0, 1, 0, 12, 0);
        work(0, 64, 0, 12, 6 * 4096);
        // of 33: 33 of 64 end with six bits, and the others, ended or not, have read all
        work(0, 33, 0, 12, 33 * 64 * 6 + 31 * 64 * 12);
        work(1, 1, 0, 12, 0);
        work(1, 64, 0, 12, 6 * 4096);
        work(2, 0, 64, 12, 0);
        work(2, 64, 64, 12, 0);
        // a half of what is left ends with each bit, but what is left behind five ends with the sixth
        work(2, 1, 64, 12, 2048 + 1024 * 2 + 512 * 3 + 256 * 4 + 128 * 5 + 128 * 6);
        work(3, 0, 0, 12, 0);
        work(3, 12, 0, 12, 12 * 4096);
        work(4, 0, 0, 12, 0);
        work(4, 2, 0, 12, 2048 + 2048 * 2);
        work(5, 1, 0, 12, 0);
        work(5, 2, 0, 12, 4096);
        work(6, 6, 0, 12, 0);
        work(6, 6, 6, 12, 0);
        work(6, 2, 1, 12, 4096);
        work(7, Known.LOW, Known.HIGH, 12, 3 * 4096);
    }

    private static void runOutTapesCountWhole() {
        // too short for all: every tape counts with all its bits, the part of a round among them
        for (int length = 0; length < 6; length++) {
            work(0, 64, 0, length, length << length);
            work(0, 33, 0, length, length << length);
            work(1, 64, 0, length, length << length);
        }
        for (int length = 0; length <= 12; length++) {
            work(3, 12, 0, length, length << length);
        }
        // of 3, with three bits: 6 tapes end with two, and 11 with a bit that makes no round counts three
        work(0, 3, 0, 2, 4 * 2);
        work(0, 3, 0, 3, 6 * 2 + 2 * 3);
        work(0, 3, 0, 4, 12 * 2 + 4 * 4);
        work(1, 6, 0, 3, 8 * 3);
        work(1, 6, 0, 4, 12 * 3 + 4 * 4);
        work(2, 1, 3, 1, 2);
        work(2, 1, 3, 2, 2 + 2 * 2);
        work(4, 12, 0, 1, 2);
        work(4, 12, 0, 2, 2 + 2 * 2);
        work(5, 4, 0, 4, 16 * 4);
        work(5, 4, 0, 5, 32 * 5);
        work(7, 0, 0, 2, 4 * 2);
        work(7, 0, 0, 3, 8 * 3);
        work(7, 0, 0, 4, 16 * 3);
    }

    private static void ofNoLength() {
        for (int length : NO_LENGTHS) {
            for (int[] call : EdgeSamplers.ALL) {
                work(call[0], call[1], call[2], length, TapeCounter.NONE);
            }
            Known.leavesEach(CHECK, "work(3, 1, 0, " + length + ")", TapeCounter.NONE, x -> x.work(3, 1, 0, length));
        }
    }

    private static void ofNoSampler() {
        for (int[] call : NoSamplers.ALL) {
            for (int length : new int[] {0, 12, -1, 13, Known.LOW, Known.HIGH}) {
                String name = "work(" + call[0] + ", " + call[1] + ", " + call[2] + ", " + length + ")";
                Known.leavesEach(CHECK, name, TapeCounter.NONE, x -> x.work(call[0], call[1], call[2], length));
            }
        }
    }

    private static void ofNoShares() {
        for (int[] weights : new int[][] {Known.MAKE_0, Known.MAKE_65, Known.MAKE_120}) {
            for (int length : new int[] {0, 12, -1, 13}) {
                String name = "work(7, 0, 0, " + length + ") of " + java.util.Arrays.toString(weights);
                Known known = new Known(CHECK, weights, "0101", 2);
                known.leaves(name, TapeCounter.NONE, x -> x.work(7, 0, 0, length));
            }
        }
        new Known(CHECK, Known.MAKE_1, "", 0).leaves("work(7, 0, 0, 12) of 1", 0, x -> x.work(7, 0, 0, 12));
        new Known(CHECK, Known.MAKE_64, "", 0).leaves("work(7, 0, 0, 12) of 64", 6 * 4096, x -> x.work(7, 0, 0, 12));
    }
}
