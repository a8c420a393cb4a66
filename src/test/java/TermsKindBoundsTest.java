/** Terms: the KINDS 0 .. 7, and the ranges of A and B for each, at their ends and just beyond them. */
public final class TermsKindBoundsTest {
    private static final Check CHECK = new Check();
    private static final String ZEROS = "0".repeat(13);

    public static void main(String[] args) {
        atTheEnds();
        beyondTheEnds();
        CHECK.end();
    }

    private static void atTheEnds() {
        for (int[] call : EdgeSamplers.ALL) {
            int kind = call[0];
            int a = call[1];
            int b = call[2];
            int bits = call[4];
            String name = kind + ", " + a + ", " + b;
            TapeCounter x = new TapeCounter();
            Known.feedAll(x, ZEROS);
            CHECK.due("isOne(" + name + ")", x.isOne(kind, a, b), true);
            CHECK.due("draw(" + name + ") of zeros", x.draw(kind, a, b), call[3]);
            CHECK.due("spent() behind draw(" + name + ")", x.spent(), bits);
            CHECK.due("left() behind draw(" + name + ")", x.left(), 13 - bits);
            CHECK.due("fails(" + name + ", 0)", x.fails(kind, a, b, 0), bits == 0 ? 0 : 1);
            CHECK.due("work(" + name + ", 0)", x.work(kind, a, b, 0), 0);
            CHECK.due("count(" + name + ", 0)", x.count(kind, a, b, 0, call[3]), bits == 0 ? 1 : 0);
            CHECK.due("first(" + name + ") is none too late", x.first(kind, a, b, call[3]) <= bits, true);
        }
    }

    private static void beyondTheEnds() {
        for (int[] call : NoSamplers.ALL) {
            int kind = call[0];
            int a = call[1];
            int b = call[2];
            String name = "(" + kind + ", " + a + ", " + b + ")";
            TapeCounter x = new TapeCounter();
            Known.feedAll(x, ZEROS);
            CHECK.due("isOne" + name, x.isOne(kind, a, b), false);
            CHECK.due("draw" + name, x.draw(kind, a, b), TapeCounter.NONE);
            CHECK.due("fails" + name, x.fails(kind, a, b, 0), TapeCounter.NONE);
            CHECK.due("work" + name, x.work(kind, a, b, 0), TapeCounter.NONE);
            CHECK.due("count" + name, x.count(kind, a, b, 0, 0), TapeCounter.NONE);
            CHECK.due("first" + name, x.first(kind, a, b, 0), TapeCounter.NONE);
            Known.holds(CHECK, x, ZEROS, "behind the calls of no sampler " + name);
        }
    }
}
