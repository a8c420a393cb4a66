/** Terms: 'THE TAPE has 256 bits at most; it is empty at first.' */
public final class TermsTapeBoundsTest {
    private static final Check CHECK = new Check();

    public static void main(String[] args) {
        isEmptyAtFirst();
        takes256Bits();
        takes256BitsAgain();
        goesRoundMoreThanOnce();
        CHECK.end();
    }

    private static void isEmptyAtFirst() {
        Known.holds(CHECK, new TapeCounter(), "", "of a new object");
    }

    private static void takes256Bits() {
        for (int n = 254; n <= 256; n++) {
            TapeCounter x = new TapeCounter();
            Known.feedAll(x, Known.mixedBits(n));
            Known.holds(CHECK, x, Known.mixedBits(n), "of " + n + " bits");
        }
        String full = Known.mixedBits(256);
        Known.tape(CHECK, full).leaves("feed(1, 1) of a full tape", TapeCounter.NONE, x -> x.feed(1, 1));
        Known.tape(CHECK, full).leaves("feed(-1, 32) of a full tape", TapeCounter.NONE, x -> x.feed(-1, 32));
    }

    /** A tape that has been full and is empty again takes as many once more. */
    private static void takes256BitsAgain() {
        TapeCounter x = new TapeCounter();
        Known.feedAll(x, "1".repeat(256));
        for (int i = 0; i < 21; i++) {
            x.draw(3, 12, 0);
        }
        x.draw(3, 4, 0);
        CHECK.due("left() behind 256 bits", x.left(), 0);
        Known.feedAll(x, Known.mixedBits(256));
        CHECK.due("feed(0, 1)", x.feed(0, 1), TapeCounter.NONE);
        Known.holds(CHECK, x, Known.mixedBits(256), "of the second tape");
    }

    /** As many bits come as go, with the tape full all the time. */
    private static void goesRoundMoreThanOnce() {
        TapeCounter x = new TapeCounter();
        String all = Known.mixedBits(256 + 60 * 11);
        Known.feedAll(x, all.substring(0, 256));
        for (int at = 0; at < 60 * 11; at += 11) {
            String gone = all.substring(at, at + 11);
            CHECK.due("draw(3, 11, 0) at " + at, x.draw(3, 11, 0), (int) gone.chars().filter(c -> c == '1').count());
            String next = all.substring(256 + at, 256 + at + 11);
            CHECK.due("feed at " + at, x.feed(Integer.parseInt(next, 2), 11), 256);
            CHECK.due("feed(1, 1) at " + at, x.feed(1, 1), TapeCounter.NONE);
        }
        Known.holds(CHECK, x, all.substring(60 * 11), "behind 60 rounds");
    }
}
