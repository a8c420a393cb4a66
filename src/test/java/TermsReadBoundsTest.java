/** Terms: 'To READ k bits is to make a number of them, the first one highest (0 of none).' */
public final class TermsReadBoundsTest {
    private static final Check CHECK = new Check();

    public static void main(String[] args) {
        makesZeroOfNone();
        putsTheFirstHighest();
        readsNoBitTooMany();
        readsTheLeastAndTheGreatestInt();
        CHECK.end();
    }

    private static void reads(String tape, int a, int value, int bits) {
        TapeCounter x = new TapeCounter();
        Known.feedAll(x, tape);
        String call = "draw(0, " + a + ", 0) of " + tape;
        CHECK.due(call, x.draw(0, a, 0), value);
        CHECK.due("spent() behind " + call, x.spent(), bits);
        Known.holds(CHECK, x, tape.substring(bits), "behind " + call);
    }

    private static void makesZeroOfNone() {
        reads("", 1, 0, 0);
        reads("1", 1, 0, 0);
        reads("0", 1, 0, 0);
    }

    private static void putsTheFirstHighest() {
        for (int k = 1; k <= 6; k++) {
            for (int number = 0; number < 1 << k; number++) {
                String tape = Integer.toBinaryString(number + (1 << k)).substring(1);
                reads(tape, 1 << k, number, k);
            }
        }
    }

    /** One side more than 2^k needs k + 1 bits, and 2^k sides do not. */
    private static void readsNoBitTooMany() {
        for (int k = 0; k <= 6; k++) {
            reads("00000000", 1 << k, 0, k);
            if (k < 6) {
                reads("00000000", (1 << k) + 1, 0, k + 1);
            }
            if (k > 1) {
                reads("00000000", (1 << k) - 1, 0, k);
            }
        }
    }

    private static void readsTheLeastAndTheGreatestInt() {
        TapeCounter x = new TapeCounter();
        x.feed(Known.LOW, 32);
        x.feed(Known.HIGH, 32);
        CHECK.due("the first 6 bits of the least int", x.draw(0, 64, 0), 32);
        x.draw(3, 12, 0);
        x.draw(3, 12, 0);
        CHECK.due("its last 2 and the first 4 of the greatest", x.draw(0, 64, 0), 7);
    }
}
