/** Promise 7: 'the bits that it reads go'; 'NONE when there is no such sampler, or it has run out: then nothing goes.' */
public final class Promise07DrawBoundsTest {
    private static final Check CHECK = new Check();

    public static void main(String[] args) {
        ofNoSampler();
        ofNoShares();
        runsOut();
        drawsOnWhenBitsHaveCome();
        bitsThatWereReadGo();
        CHECK.end();
    }

    private static void ofNoSampler() {
        for (int[] call : NoSamplers.ALL) {
            String name = "draw(" + call[0] + ", " + call[1] + ", " + call[2] + ")";
            Known.leavesEach(CHECK, name, TapeCounter.NONE, x -> x.draw(call[0], call[1], call[2]));
        }
    }

    private static void ofNoShares() {
        for (int[] weights : new int[][] {Known.MAKE_0, Known.MAKE_65, Known.MAKE_120}) {
            for (int n : new int[] {0, 1, 256}) {
                String call = "draw(7, 0, 0) of " + java.util.Arrays.toString(weights);
                Known known = new Known(CHECK, weights, "0".repeat(n), 4);
                known.leaves(call, TapeCounter.NONE, x -> x.draw(7, 0, 0));
            }
        }
    }

    private static void runsOut() {
        for (int[] call : EdgeSamplers.ALL) {
            // a shorter row of zeros is but the beginning of what it reads
            for (int n = 0; n < call[4]; n++) {
                runsOut("0".repeat(n), call[0], call[1], call[2]);
            }
        }
        // on these it would go on for ever
        for (int n = 0; n <= 256; n++) {
            runsOut("1".repeat(n), 0, 3, 0);
            runsOut("1".repeat(n), 1, 3, 0);
            runsOut("1".repeat(n), 0, 33, 0);
            runsOut("10".repeat(128).substring(0, n), 2, 2, 3);
            runsOut("1".repeat(n), 5, 4, 0);
        }
    }

    private static void runsOut(String tape, int kind, int a, int b) {
        String call = "draw(" + kind + ", " + a + ", " + b + ") of " + tape;
        new Known(CHECK, Known.ONES, tape, 3).leaves(call, TapeCounter.NONE, x -> x.draw(kind, a, b));
    }

    /** Bits that were read in vain are read again with those that came behind them. */
    private static void drawsOnWhenBitsHaveCome() {
        TapeCounter x = new TapeCounter();
        for (int n = 1; n <= 11; n++) {
            x.feed(1, 1);
            CHECK.due("draw(3, 12, 0) of " + n + " bits", x.draw(3, 12, 0), TapeCounter.NONE);
            CHECK.due("left()", x.left(), n);
        }
        x.feed(1, 1);
        CHECK.due("draw(3, 12, 0) of 12 bits", x.draw(3, 12, 0), 12);
        CHECK.due("left()", x.left(), 0);
    }

    private static void bitsThatWereReadGo() {
        for (int[] call : EdgeSamplers.ALL) {
            String name = "draw(" + call[0] + ", " + call[1] + ", " + call[2] + ")";
            String behind = Known.mixedBits(256 - call[4]);
            TapeCounter x = new TapeCounter();
            Known.feedAll(x, "0".repeat(call[4]) + behind);
            CHECK.due(name, x.draw(call[0], call[1], call[2]), call[3]);
            Known.holds(CHECK, x, behind, "behind " + name);
        }
    }
}
