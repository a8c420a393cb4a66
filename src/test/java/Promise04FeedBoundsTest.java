/**
 * Promise 4: 'The lowest n (0 .. 32) bits of a number come behind the tape's, the highest of them
 * first.' 'NONE when n is not such, or there would be more than 256.'
 */
public final class Promise04FeedBoundsTest {
    private static final Check CHECK = new Check();
    private static final int[] NUMBERS = {0, 1, -1, 2, 0x55555555, Known.LOW, Known.LOW + 1, Known.HIGH, Known.HIGH - 1};

    public static void main(String[] args) {
        takesZeroToThirtyTwo();
        refusesOtherSizes();
        fillsTheTape();
        refusesMoreThanFull();
        takesNoneWhenFull();
        isFullAgainWhenBitsHaveGone();
        CHECK.end();
    }

    /** The bits of a number as a text, the highest first. */
    private static String lowest(int number, int n) {
        StringBuilder bits = new StringBuilder();
        for (int i = 0; i < n; i++) {
            bits.insert(0, (number >> i) & 1);
        }
        return bits.toString();
    }

    private static void takesZeroToThirtyTwo() {
        for (int number : NUMBERS) {
            for (int n = 0; n <= 32; n++) {
                takes("", number, n);
                takes("011", number, n);
            }
        }
    }

    /** The feed fits, and the tape has just these bits then. */
    private static void takes(String tape, int number, int n) {
        String call = "feed(" + number + ", " + n + ") behind " + tape.length() + " bits";
        TapeCounter x = new TapeCounter();
        Known.feedAll(x, tape);
        CHECK.due(call, x.feed(number, n), tape.length() + n);
        Known.holds(CHECK, x, tape + lowest(number, n), "after " + call);
    }

    private static void refusesOtherSizes() {
        for (int number : NUMBERS) {
            for (int n : new int[] {-1, 33, -32, 64, 256, Known.LOW, Known.HIGH, Known.LOW + 32, Known.HIGH - 255}) {
                Known.leavesEach(CHECK, "feed(" + number + ", " + n + ")", TapeCounter.NONE, x -> x.feed(number, n));
            }
        }
    }

    private static void fillsTheTape() {
        for (int n = 1; n <= 32; n++) {
            takes(Known.mixedBits(256 - n), Known.HIGH - 1, n);
            takes(Known.mixedBits(255 - n), Known.LOW + 1, n);
        }
    }

    private static void refusesMoreThanFull() {
        for (int n = 1; n <= 32; n++) {
            int size = n;
            for (int number : new int[] {0, -1, Known.LOW, Known.HIGH}) {
                String call = "feed(" + number + ", " + n + ") with a bit too many";
                Known.tape(CHECK, Known.mixedBits(257 - n)).leaves(call, TapeCounter.NONE, x -> x.feed(number, size));
                call = "feed(" + number + ", " + n + ") of a full tape";
                Known.tape(CHECK, Known.mixedBits(256)).leaves(call, TapeCounter.NONE, x -> x.feed(number, size));
            }
        }
    }

    private static void takesNoneWhenFull() {
        for (int number : NUMBERS) {
            Known.tape(CHECK, Known.mixedBits(256)).leaves("feed(" + number + ", 0)", 256, x -> x.feed(number, 0));
            Known.tape(CHECK, "").leaves("feed(" + number + ", 0)", 0, x -> x.feed(number, 0));
        }
    }

    private static void isFullAgainWhenBitsHaveGone() {
        TapeCounter x = new TapeCounter();
        String tape = Known.mixedBits(256);
        Known.feedAll(x, tape);
        x.draw(3, 5, 0);
        CHECK.due("feed(0, 6)", x.feed(0, 6), TapeCounter.NONE);
        CHECK.due("feed(0b10110, 5)", x.feed(0b10110, 5), 256);
        CHECK.due("feed(0, 1)", x.feed(0, 1), TapeCounter.NONE);
        Known.holds(CHECK, x, tape.substring(5) + "10110", "behind 5 bits that went and 5 that came");
    }
}
