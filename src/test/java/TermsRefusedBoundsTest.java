/** Terms: 'A call that is refused changes nothing.' Each call that can be, in states of every sort. */
public final class TermsRefusedBoundsTest {
    private static final Check CHECK = new Check();
    private static final int[] NO_LENGTHS = {-1, 13, Known.LOW, Known.HIGH};

    public static void main(String[] args) {
        weights();
        feeds();
        samplers();
        lengths();
        manyInARow();
        CHECK.end();
    }

    private static void weights() {
        int[][] calls = {{-1, 3}, {8, 3}, {Known.LOW, 3}, {Known.HIGH, 3},
            {2, -1}, {2, 16}, {2, Known.LOW}, {2, Known.HIGH}, {-1, -1}, {8, 16}, {Known.LOW, Known.HIGH}};
        for (int[] call : calls) {
            String name = "weigh(" + call[0] + ", " + call[1] + ")";
            Known.leavesEach(CHECK, name, 0, x -> x.weigh(call[0], call[1]) ? 1 : 0);
        }
        for (int i : new int[] {-1, 8, Known.LOW, Known.HIGH}) {
            Known.leavesEach(CHECK, "weight(" + i + ")", TapeCounter.NONE, x -> x.weight(i));
        }
    }

    private static void feeds() {
        for (int bits : new int[] {0, -1, Known.LOW, Known.HIGH}) {
            for (int n : new int[] {-1, 33, Known.LOW, Known.HIGH}) {
                Known.leavesEach(CHECK, "feed(" + bits + ", " + n + ")", TapeCounter.NONE, x -> x.feed(bits, n));
            }
        }
    }

    private static void samplers() {
        for (int[] call : NoSamplers.ALL) {
            int kind = call[0];
            int a = call[1];
            int b = call[2];
            String name = "(" + kind + ", " + a + ", " + b + ")";
            Known.leavesEach(CHECK, "isOne" + name, 0, x -> x.isOne(kind, a, b) ? 1 : 0);
            Known.leavesEach(CHECK, "draw" + name, TapeCounter.NONE, x -> x.draw(kind, a, b));
            Known.leavesEach(CHECK, "count" + name, TapeCounter.NONE, x -> x.count(kind, a, b, 12, 0));
            Known.leavesEach(CHECK, "fails" + name, TapeCounter.NONE, x -> x.fails(kind, a, b, 12));
            Known.leavesEach(CHECK, "work" + name, TapeCounter.NONE, x -> x.work(kind, a, b, 12));
            Known.leavesEach(CHECK, "first" + name, TapeCounter.NONE, x -> x.first(kind, a, b, 0));
        }
    }

    private static void lengths() {
        for (int length : NO_LENGTHS) {
            Known.leavesEach(CHECK, "count, " + length, TapeCounter.NONE, x -> x.count(0, 6, 0, length, 0));
            Known.leavesEach(CHECK, "fails, " + length, TapeCounter.NONE, x -> x.fails(5, 4, 0, length));
            Known.leavesEach(CHECK, "work, " + length, TapeCounter.NONE, x -> x.work(6, 6, 3, length));
        }
    }

    /** What one refused call would leave behind, the next ones might show. */
    private static void manyInARow() {
        Known.leavesEach(CHECK, "many refused calls", TapeCounter.NONE, x -> {
            for (int[] call : NoSamplers.ALL) {
                x.draw(call[0], call[1], call[2]);
                x.feed(-1, 33);
            }
            x.weigh(0, 16);
            x.weigh(8, 0);
            return x.count(0, 2, 0, 13, 0);
        });
    }
}
