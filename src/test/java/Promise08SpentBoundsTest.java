/** Promise 8: 'How many bits the latest draw() that was not NONE has read; 0 when there was none.' */
public final class Promise08SpentBoundsTest {
    private static final Check CHECK = new Check();

    public static void main(String[] args) {
        isZeroWhenThereWasNone();
        isOfTheLatest();
        passesOverThoseThatWereNone();
        mayBeAWholeTape();
        staysBehindOtherCalls();
        CHECK.end();
    }

    private static void isZeroWhenThereWasNone() {
        TapeCounter x = new TapeCounter();
        CHECK.due("spent() of a new object", x.spent(), 0);
        x.feed(-1, 32);
        CHECK.due("spent() behind a feed", x.spent(), 0);
        for (int[] call : NoSamplers.ALL) {
            x.draw(call[0], call[1], call[2]);
            CHECK.due("spent() behind a draw of kind " + call[0] + " that was refused", x.spent(), 0);
        }
        x.draw(0, 33, 0);
        CHECK.due("spent() behind a draw that has run out", x.spent(), 0);
    }

    /** None, some and all bits of a tape, each behind a draw that read another number of them. */
    private static void isOfTheLatest() {
        TapeCounter x = new TapeCounter();
        Known.feedAll(x, "0".repeat(256));
        for (int a : new int[] {12, 0, 1, 11, 12, 12, 0, 0, 2}) {
            x.draw(3, a, 0);
            CHECK.due("spent() behind draw(3, " + a + ", 0)", x.spent(), a);
        }
        for (int[] call : EdgeSamplers.ALL) {
            x = new TapeCounter();
            Known.feedAll(x, "0".repeat(256));
            x.draw(3, 8, 0);
            x.draw(call[0], call[1], call[2]);
            String name = "draw(" + call[0] + ", " + call[1] + ", " + call[2] + ")";
            CHECK.due("spent() behind " + name, x.spent(), call[4]);
        }
    }

    private static void passesOverThoseThatWereNone() {
        for (int latest : new int[] {0, 1, 12}) {
            Known ranOut = new Known(CHECK, Known.ONES, "11", latest);
            ranOut.leaves("draw(0, 3, 0)", TapeCounter.NONE, x -> x.draw(0, 3, 0));
            for (int[] call : NoSamplers.ALL) {
                String name = "draw(" + call[0] + ", " + call[1] + ", " + call[2] + ")";
                Known refused = new Known(CHECK, Known.ONES, "000000", latest);
                refused.leaves(name, TapeCounter.NONE, x -> x.draw(call[0], call[1], call[2]));
            }
        }
    }

    private static void mayBeAWholeTape() {
        for (int n = 2; n <= 256; n += 2) {
            TapeCounter x = new TapeCounter();
            Known.feedAll(x, "1".repeat(n - 1) + "0");
            CHECK.due("draw(0, 3, 0) of " + n + " bits", x.draw(0, 3, 0), 2);
            CHECK.due("spent() of " + n + " bits", x.spent(), n);
            CHECK.due("draw(0, 2, 0) of an empty tape", x.draw(0, 2, 0), TapeCounter.NONE);
            CHECK.due("spent() behind it", x.spent(), n);
            CHECK.due("draw(0, 1, 0) of an empty tape", x.draw(0, 1, 0), 0);
            CHECK.due("spent() behind it", x.spent(), 0);
        }
    }

    /** Counting reads bits too, but they are not drawn. */
    private static void staysBehindOtherCalls() {
        Known known = new Known(CHECK, Known.MIXED, "10110", 7);
        known.leaves("calls that draw nothing", 7, x -> {
            x.count(0, 6, 0, 12, 5);
            x.fails(1, 6, 0, 12);
            x.work(5, 4, 0, 12);
            x.first(6, 6, 3, 7);
            x.count(7, 0, 0, 0, 0);
            x.isOne(7, 0, 0);
            x.feed(Known.LOW, 0);
            x.feed(Known.HIGH, 33);
            x.left();
            return x.spent();
        });
    }
}
