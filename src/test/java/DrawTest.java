/** Promises 7 and 8: draw and spent, of every kind, by tapes worked out by hand. */
public final class DrawTest {
    private static final Check CHECK = new Check();

    public static void main(String[] args) {
        plain();
        thrifty();
        coin();
        tossesAndWait();
        order();
        choice();
        shares();
        runsOutWithoutChange();
        refusesWithoutChange();
        readsNothing();
        readsAWholeTape();
        CHECK.end();
    }

    private static TapeCounter fed(String bits) {
        TapeCounter x = new TapeCounter();
        for (int i = 0; i < bits.length(); i++) {
            x.feed(bits.charAt(i) - '0', 1);
        }
        return x;
    }

    private static void drawn(TapeCounter x, String bits, int kind, int a, int b, int value, int read) {
        String call = "draw(" + kind + ", " + a + ", " + b + ") of " + bits;
        CHECK.due(call, x.draw(kind, a, b), value);
        CHECK.due("spent() behind " + call, x.spent(), read);
        CHECK.due("left() behind " + call, x.left(), bits.length() - read);
    }

    private static void gives(String bits, int kind, int a, int b, int value, int read) {
        drawn(fed(bits), bits, kind, a, b, value, read);
    }

    private static void runsOut(String bits, int kind, int a, int b) {
        drawn(fed(bits), bits, kind, a, b, TapeCounter.NONE, 0);
    }

    private static void plain() {
        gives("1", 0, 1, 0, 0, 0);
        gives("10", 0, 2, 0, 1, 1);
        gives("01101", 0, 3, 7, 1, 2);
        gives("111101", 0, 3, 0, 1, 6);
        gives("1101001", 0, 6, 0, 4, 6);
        gives("1111110", 0, 64, 0, 63, 6);
        runsOut("11111", 0, 64, 0);
        runsOut("1111", 0, 3, 0);
    }

    private static void thrifty() {
        gives("1", 1, 1, 0, 0, 0);
        gives("1011", 1, 6, 0, 5, 3);
        // 110 makes 6 of 8, less 6 is 0 of 2; then 1 makes 1 of 4 and 0 makes 2 of 8
        gives("110101", 1, 6, 0, 2, 5);
        // 111 makes 7 of 8, 1 of 2; then 11 makes 7 of 8 anew, 1 of 2; then 00 makes 4
        gives("11111001", 1, 6, 0, 4, 7);
        gives("1111110", 1, 64, 0, 63, 6);
        // 111111 makes 63 of 64, less 63 is 0 of 1; it goes on as if it began
        gives("111111000101", 1, 63, 0, 5, 12);
        runsOut("111", 1, 6, 0);
        runsOut("", 1, 2, 0);
    }

    private static void coin() {
        gives("1", 2, 0, 5, 0, 0);
        gives("1", 2, 5, 5, 1, 0);
        gives("01", 2, 1, 2, 1, 1);
        gives("11", 2, 1, 2, 0, 1);
        // a third is 0.0101..
        gives("1", 2, 1, 3, 0, 1);
        gives("001", 2, 1, 3, 1, 2);
        gives("0111", 2, 1, 3, 0, 3);
        gives("0100", 2, 1, 3, 1, 4);
        runsOut("010101", 2, 1, 3);
        // three quarters is 0.11, and behind that it holds 0
        gives("0", 2, 3, 4, 1, 1);
        gives("10", 2, 3, 4, 1, 2);
        gives("111", 2, 3, 4, 0, 2);
        gives("11111100", 2, 63, 64, 0, 6);
    }

    private static void tossesAndWait() {
        gives("1", 3, 0, 0, 0, 0);
        gives("10110", 3, 4, 0, 3, 4);
        gives("1111111111110", 3, 12, 0, 12, 12);
        runsOut("11111111111", 3, 12, 0);
        gives("1", 4, 0, 0, 0, 0);
        gives("11", 4, 5, 0, 0, 1);
        gives("0010", 4, 5, 0, 2, 3);
        gives("0001", 4, 3, 0, 3, 3);
        gives("0000000000001", 4, 12, 0, 12, 12);
        runsOut("00", 4, 3, 0);
    }

    private static void order() {
        gives("1", 5, 1, 0, 0, 0);
        gives("0", 5, 2, 0, 1, 1);
        gives("1", 5, 2, 0, 0, 1);
        // 3 numbers: j of 3 by two bits, then j of 2 by one
        gives("101", 5, 3, 0, 0, 3);
        gives("100", 5, 3, 0, 2, 3);
        gives("011", 5, 3, 0, 1, 3);
        gives("010", 5, 3, 0, 4, 3);
        gives("001", 5, 3, 0, 5, 3);
        gives("000", 5, 3, 0, 3, 3);
        gives("111111000", 5, 3, 0, 3, 9);
        gives("1110101", 5, 4, 0, 0, 5);
        // 3 1 2 0, then i = 2 and j = 1: 3 2 1 0
        gives("00011", 5, 4, 0, 23, 5);
        runsOut("1111", 5, 4, 0);
    }

    private static void choice() {
        gives("1", 6, 3, 0, 0, 0);
        gives("1", 6, 6, 6, 63, 0);
        gives("01", 6, 2, 1, 1, 1);
        gives("11", 6, 2, 1, 2, 1);
        // 2 of 3: the first is taken by two thirds, 0.1010.., the next by a half
        gives("001", 6, 3, 2, 3, 2);
        gives("01", 6, 3, 2, 5, 2);
        gives("11", 6, 3, 2, 6, 2);
        runsOut("0", 6, 3, 2);
    }

    private static void shares() {
        gives("1010", 7, 0, 0, 5, 3);
        TapeCounter x = fed("11110110100");
        int[] weights = {0, 3, 0, 4, 0, 0, 1, 0};
        for (int i = 0; i < 8; i++) {
            x.weigh(i, weights[i]);
        }
        drawn(x, "11110110100", 7, 9, -9, 6, 3);
        drawn(x, "10110100", 7, 0, 0, 3, 3);
        drawn(x, "10100", 7, 0, 0, 3, 3);
        x.weigh(6, 0);
        x.feed(0b111010, 6);
        drawn(x, "00111010", 7, 0, 0, 1, 3);
        x.feed(0b011, 3);
        drawn(x, "11010011", 7, 0, 0, 3, 3);
        drawn(x, "10011", 7, 0, 0, 3, 3);
        CHECK.due("draw of two bits", x.draw(7, 0, 0), TapeCounter.NONE);
        CHECK.due("left()", x.left(), 2);
    }

    private static void runsOutWithoutChange() {
        TapeCounter x = fed("0111111");
        drawn(x, "0111111", 3, 1, 0, 0, 1);
        CHECK.due("draw(0, 6, 0)", x.draw(0, 6, 0), TapeCounter.NONE);
        CHECK.due("left()", x.left(), 6);
        CHECK.due("spent()", x.spent(), 1);
        x.feed(0b010, 3);
        drawn(x, "111111010", 0, 6, 0, 2, 9);
    }

    private static void refusesWithoutChange() {
        TapeCounter x = fed("01101");
        drawn(x, "01101", 3, 2, 0, 1, 2);
        for (int[] call : NoSamplers.ALL) {
            CHECK.due("draw of no sampler, kind " + call[0], x.draw(call[0], call[1], call[2]), TapeCounter.NONE);
            CHECK.due("left()", x.left(), 3);
            CHECK.due("spent()", x.spent(), 2);
        }
        drawn(x, "101", 0, 8, 0, 5, 3);
    }

    private static void readsNothing() {
        TapeCounter x = fed("101");
        drawn(x, "101", 3, 2, 0, 1, 2);
        drawn(x, "1", 6, 4, 4, 15, 0);
        drawn(new TapeCounter(), "", 5, 1, 0, 0, 0);
    }

    private static void readsAWholeTape() {
        TapeCounter x = new TapeCounter();
        for (int i = 0; i < 7; i++) {
            x.feed(-1, 32);
        }
        x.feed(-1, 31);
        CHECK.due("draw(0, 3, 0) of 255 bits", x.draw(0, 3, 0), TapeCounter.NONE);
        x.feed(0, 1);
        // 127 rounds of 11, and 10 at the end
        CHECK.due("draw(0, 3, 0) of 256 bits", x.draw(0, 3, 0), 2);
        CHECK.due("spent()", x.spent(), 256);
        CHECK.due("left()", x.left(), 0);
        coinReadsAWholeTape();
        thriftyReadsAWholeTape();
    }

    private static void coinReadsAWholeTape() {
        TapeCounter x = new TapeCounter();
        for (int i = 0; i < 8; i++) {
            x.feed(i < 7 ? 0x55555555 : 0x55555554, 32);
        }
        CHECK.due("draw(2, 1, 3) of 256 bits", x.draw(2, 1, 3), 1);
        CHECK.due("spent()", x.spent(), 256);
        CHECK.due("left()", x.left(), 0);
    }

    private static void thriftyReadsAWholeTape() {
        TapeCounter x = new TapeCounter();
        // of 3: 11 makes 3 of 4, less 3 is 0 of 1, so that it begins anew with each pair
        for (int i = 0; i < 8; i++) {
            x.feed(i < 7 ? -1 : -2, 32);
        }
        CHECK.due("draw(1, 3, 0) of 256 bits", x.draw(1, 3, 0), 2);
        CHECK.due("spent()", x.spent(), 256);
        CHECK.due("left()", x.left(), 0);
    }
}
