/** Promises 4 and 5: feed and left. */
public final class FeedTest {
    public static void main(String[] args) {
        Check check = new Check();
        putsTheHighestBitFirst(check);
        takesTheLowestBitsAlone(check);
        takesNoneAndAll(check);
        refusesSizes(check);
        isFullAt256(check);
        keepsTheOrderOfAFullTape(check);
        check.end();
    }

    private static void isTape(Check check, TapeCounter x, String bits) {
        check.due("left() of " + bits, x.left(), bits.length());
        for (int i = 0; i < bits.length(); i++) {
            check.due("bit " + i + " of " + bits, x.draw(3, 1, 0), bits.charAt(i) - '0');
            // not behind each: a full tape would take more than the 512 calls of an object
            if (i % 2 == 0) {
                check.due("left() behind bit " + i, x.left(), bits.length() - i - 1);
            }
        }
        check.due("behind the end", x.draw(3, 1, 0), TapeCounter.NONE);
    }

    private static void putsTheHighestBitFirst(Check check) {
        TapeCounter x = new TapeCounter();
        check.due("feed(0b1101, 4)", x.feed(0b1101, 4), 4);
        check.due("feed(0b001, 3)", x.feed(0b001, 3), 7);
        isTape(check, x, "1101001");
    }

    private static void takesTheLowestBitsAlone(Check check) {
        TapeCounter x = new TapeCounter();
        check.due("feed(0b11110010, 4)", x.feed(0b11110010, 4), 4);
        check.due("feed(-2, 3)", x.feed(-2, 3), 7);
        isTape(check, x, "0010110");
    }

    private static void takesNoneAndAll(Check check) {
        TapeCounter x = new TapeCounter();
        check.due("feed(-1, 0)", x.feed(-1, 0), 0);
        check.due("feed(0x80000001, 32)", x.feed(0x80000001, 32), 32);
        check.due("feed(7, 0)", x.feed(7, 0), 32);
        isTape(check, x, "1" + "0".repeat(30) + "1");
    }

    private static void refusesSizes(Check check) {
        TapeCounter x = new TapeCounter();
        x.feed(2, 2);
        for (int n : new int[] {-1, -32, 33, 64, 256, Integer.MIN_VALUE, Integer.MAX_VALUE}) {
            check.due("feed(1, " + n + ")", x.feed(1, n), TapeCounter.NONE);
            check.due("left()", x.left(), 2);
        }
        isTape(check, x, "10");
    }

    private static void isFullAt256(Check check) {
        TapeCounter x = new TapeCounter();
        for (int i = 1; i <= 7; i++) {
            check.due("feed(-1, 32)", x.feed(-1, 32), 32 * i);
        }
        check.due("feed(-1, 31)", x.feed(-1, 31), 255);
        check.due("feed(0, 2)", x.feed(0, 2), TapeCounter.NONE);
        check.due("left()", x.left(), 255);
        check.due("feed(0, 1)", x.feed(0, 1), 256);
        check.due("feed(0, 1)", x.feed(0, 1), TapeCounter.NONE);
        check.due("feed(0, 32)", x.feed(0, 32), TapeCounter.NONE);
        check.due("feed(0, 0)", x.feed(0, 0), 256);
        isTape(check, x, "1".repeat(255) + "0");
    }

    private static void keepsTheOrderOfAFullTape(Check check) {
        TapeCounter x = new TapeCounter();
        StringBuilder all = new StringBuilder();
        for (int i = 0; i < 8; i++) {
            int bits = 0x12345678 * (2 * i + 1);
            x.feed(bits, 32);
            all.append(String.format("%32s", Integer.toBinaryString(bits)).replace(' ', '0'));
        }
        x.draw(3, 12, 0);
        check.due("feed(0b1011, 4)", x.feed(0b1011, 4), 248);
        isTape(check, x, all.substring(12) + "1011");
    }
}
