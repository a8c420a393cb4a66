/** Promise 6: 'Whether there is a sampler of a kind with these numbers (and weights, for 7).' */
public final class Promise06IsOneBoundsTest {
    private static final Check CHECK = new Check();

    public static void main(String[] args) {
        ofNumbersAtTheEnds();
        ofNumbersBeyond();
        ofNoKind();
        ofWeights();
        followsEachWeight();
        CHECK.end();
    }

    private static void ofNumbersAtTheEnds() {
        for (int[] call : EdgeSamplers.ALL) {
            String name = "isOne(" + call[0] + ", " + call[1] + ", " + call[2] + ")";
            if (call[0] != 7) {
                Known.leavesEach(CHECK, name, 1, x -> x.isOne(call[0], call[1], call[2]) ? 1 : 0);
            }
        }
    }

    private static void ofNumbersBeyond() {
        for (int[] call : NoSamplers.ALL) {
            String name = "isOne(" + call[0] + ", " + call[1] + ", " + call[2] + ")";
            Known.leavesEach(CHECK, name, 0, x -> x.isOne(call[0], call[1], call[2]) ? 1 : 0);
        }
    }

    private static void ofNoKind() {
        for (int kind = -9; kind <= 16; kind++) {
            boolean want = kind >= 0 && kind <= 7;
            CHECK.due("isOne(" + kind + ", 1, 1)", new TapeCounter().isOne(kind, 1, 1), want);
        }
    }

    private static void ofWeights() {
        ofWeights(Known.MAKE_0, 0);
        ofWeights(Known.MAKE_1, 1);
        ofWeights(Known.ONES, 1);
        ofWeights(Known.MAKE_64, 1);
        ofWeights(Known.MAKE_65, 0);
        ofWeights(Known.MAKE_120, 0);
    }

    private static void ofWeights(int[] weights, int want) {
        for (int a : new int[] {0, -1, 65, Known.LOW, Known.HIGH}) {
            for (int b : new int[] {0, -1, 65, Known.LOW, Known.HIGH}) {
                String call = "isOne(7, " + a + ", " + b + ") of " + java.util.Arrays.toString(weights);
                new Known(CHECK, weights, "10", 1).leaves(call, want, x -> x.isOne(7, a, b) ? 1 : 0);
            }
        }
    }

    /** From 60 the weight that is changed last makes 64 or 65, and from 0 it makes 0 or 1. */
    private static void followsEachWeight() {
        for (int last = 0; last < 8; last++) {
            TapeCounter x = new TapeCounter();
            for (int i = 0; i < 8; i++) {
                x.weigh(i, 0);
            }
            CHECK.due("isOne(7, 0, 0) of 0", x.isOne(7, 0, 0), false);
            x.weigh(last, 1);
            CHECK.due("isOne(7, 0, 0) of 1", x.isOne(7, 0, 0), true);
            for (int i = 1; i <= 4; i++) {
                x.weigh((last + i) % 8, 15);
            }
            x.weigh(last, 4);
            CHECK.due("isOne(7, 0, 0) of 64", x.isOne(7, 0, 0), true);
            x.weigh(last, 5);
            CHECK.due("isOne(7, 0, 0) of 65", x.isOne(7, 0, 0), false);
            x.weigh(last, 16);
            CHECK.due("isOne(7, 0, 0) behind a refused weight", x.isOne(7, 0, 0), false);
            x.weigh(last, 0);
            CHECK.due("isOne(7, 0, 0) of 60", x.isOne(7, 0, 0), true);
        }
    }
}
