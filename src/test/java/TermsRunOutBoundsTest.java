/** Terms: 'It has RUN OUT when it needs one and there is none.' */
public final class TermsRunOutBoundsTest {
    private static final Check CHECK = new Check();

    public static void main(String[] args) {
        needsNone();
        needsAllOf();
        needsAllOfAFullTape();
        CHECK.end();
    }

    /** A sampler that needs no bit does not run out of an empty tape. */
    private static void needsNone() {
        for (int[] call : EdgeSamplers.ALL) {
            if (call[4] == 0) {
                needs("", call[0], call[1], call[2], call[3]);
            }
        }
        TapeCounter x = new TapeCounter();
        for (int i = 0; i < 7; i++) {
            x.weigh(i, 0);
        }
        CHECK.due("draw(7, 0, 0) of the weight 7 alone", x.draw(7, 0, 0), 7);
    }

    private static void needsAllOf() {
        needs("1", 0, 2, 0, 1);
        needs("1110", 0, 3, 0, 2);
        needs("110101", 0, 6, 0, 5);
        needs("111111", 0, 64, 0, 63);
        needs("1", 1, 2, 0, 1);
        needs("100000", 1, 33, 0, 32);
        // 110 makes 6 of 8, less 6 is 0 of 2; then 10 makes 2 of 8
        needs("11010", 1, 6, 0, 2);
        needs("0", 2, 1, 2, 1);
        needs("1", 2, 1, 2, 0);
        needs("0100", 2, 1, 3, 1);
        needs("000000", 2, 1, 64, 1);
        // behind the last digit of a 64th it holds 0 and needs no bit more
        needs("000001", 2, 1, 64, 0);
        needs("0", 3, 1, 0, 0);
        needs("111111111111", 3, 12, 0, 12);
        needs("1", 4, 12, 0, 0);
        needs("000", 4, 3, 0, 3);
        needs("000000000001", 4, 12, 0, 11);
        needs("000000000000", 4, 12, 0, 12);
        needs("0", 5, 2, 0, 1);
        needs("101", 5, 3, 0, 0);
        needs("111111000", 5, 3, 0, 3);
        needs("00011", 5, 4, 0, 23);
        needs("0", 6, 2, 1, 1);
        needs("1", 6, 2, 1, 2);
        needs("11", 6, 3, 2, 6);
        needs("111", 7, 0, 0, 7);
    }

    /** 127 rounds of 11, which is 3, and then 10. */
    private static void needsAllOfAFullTape() {
        needs("1".repeat(255) + "0", 0, 3, 0, 2);
        needs("1".repeat(255) + "0", 1, 3, 0, 2);
        needs("01".repeat(127) + "00", 2, 1, 3, 1);
        needs("1".repeat(252) + "010", 5, 3, 0, 4);
    }

    /** The tape is enough, one bit more is not read, and with any fewer it has run out. */
    private static void needs(String tape, int kind, int a, int b, int value) {
        String call = "draw(" + kind + ", " + a + ", " + b + ") of ";
        for (int n = 0; n < tape.length(); n++) {
            String bits = tape.substring(0, n);
            Known.tape(CHECK, bits).leaves(call + bits, TapeCounter.NONE, x -> x.draw(kind, a, b));
        }
        gives(tape, "", call, kind, a, b, value);
        if (tape.length() < 256) {
            gives(tape, "0", call, kind, a, b, value);
            gives(tape, "1", call, kind, a, b, value);
        }
    }

    private static void gives(String tape, String behind, String call, int kind, int a, int b, int value) {
        TapeCounter x = new TapeCounter();
        Known.feedAll(x, tape + behind);
        CHECK.due(call + tape + behind, x.draw(kind, a, b), value);
        CHECK.due("spent() behind " + call + tape + behind, x.spent(), tape.length());
        Known.holds(CHECK, x, behind, "behind " + call + tape + behind);
    }
}
