/** Promise 5: 'How many bits the tape has.' */
public final class Promise05LeftBoundsTest {
    private static final Check CHECK = new Check();

    public static void main(String[] args) {
        answersEverySize();
        goesUpAndDown();
        staysWhereACallIsRefused();
        CHECK.end();
    }

    private static void answersEverySize() {
        for (int n = 0; n <= 256; n++) {
            Known.tape(CHECK, Known.mixedBits(n)).leaves("left() of " + n + " bits", n, TapeCounter::left);
        }
    }

    private static void goesUpAndDown() {
        TapeCounter x = new TapeCounter();
        CHECK.due("left() at first", x.left(), 0);
        x.feed(-1, 0);
        CHECK.due("left() behind feed(-1, 0)", x.left(), 0);
        x.feed(-1, 1);
        CHECK.due("left() behind feed(-1, 1)", x.left(), 1);
        x.draw(3, 1, 0);
        CHECK.due("left() behind a draw of one bit", x.left(), 0);
        for (int i = 1; i <= 8; i++) {
            x.feed(-1, 32);
            CHECK.due("left() behind " + i + " feeds", x.left(), 32 * i);
        }
        x.draw(3, 0, 0);
        CHECK.due("left() behind a draw of no bit", x.left(), 256);
        x.draw(4, 12, 0);
        CHECK.due("left() behind a draw of one bit", x.left(), 255);
        x.draw(0, 64, 0);
        CHECK.due("left() behind a draw of six bits", x.left(), 249);
    }

    private static void staysWhereACallIsRefused() {
        for (int n : new int[] {0, 1, 255, 256}) {
            TapeCounter x = new TapeCounter();
            Known.feedAll(x, "1".repeat(n));
            x.feed(0, 33);
            x.feed(0, -1);
            x.feed(0, Known.LOW);
            x.feed(0, Known.HIGH);
            x.draw(8, 1, 1);
            x.draw(Known.LOW, Known.HIGH, Known.LOW);
            // a row of ones never ends PLAIN of 3
            x.draw(0, 3, 0);
            CHECK.due("left() of " + n + " bits behind refused calls", x.left(), n);
        }
        TapeCounter x = new TapeCounter();
        Known.feedAll(x, "1".repeat(255));
        x.feed(0, 2);
        CHECK.due("left() behind a feed that was one bit too long", x.left(), 255);
    }
}
