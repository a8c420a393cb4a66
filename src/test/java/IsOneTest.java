/** Promise 6: isOne. */
public final class IsOneTest {
    private static final int[] WILD = {Integer.MIN_VALUE, -1000, -2, 1000, Integer.MAX_VALUE};

    public static void main(String[] args) {
        Check check = new Check();
        ofOneNumber(check, 0, 1, 64);
        ofOneNumber(check, 1, 1, 64);
        ofOneNumber(check, 3, 0, 12);
        ofOneNumber(check, 4, 0, 12);
        ofOneNumber(check, 5, 1, 4);
        ofTwoNumbers(check, 2, 64);
        ofTwoNumbers(check, 6, 6);
        ofNoKind(check);
        ofWeights(check);
        check.end();
    }

    private static void isOne(Check check, TapeCounter x, int kind, int a, int b, boolean want) {
        check.due("isOne(" + kind + ", " + a + ", " + b + ")", x.isOne(kind, a, b), want);
    }

    private static void ofOneNumber(Check check, int kind, int least, int most) {
        TapeCounter x = new TapeCounter();
        for (int a = -2; a <= 70; a++) {
            for (int b : new int[] {0, -1, 99, Integer.MIN_VALUE, Integer.MAX_VALUE}) {
                isOne(check, x, kind, a, b, least <= a && a <= most);
            }
        }
        for (int a : WILD) {
            isOne(check, x, kind, a, 1, false);
        }
    }

    /** For COIN the second number is the greater one, for CHOICE the first. */
    private static void ofTwoNumbers(Check check, int kind, int most) {
        for (int less = -2; less <= most + 2; less++) {
            // one for each row: no object is promised anything behind its 512th call
            TapeCounter x = new TapeCounter();
            for (int more = -2; more <= most + 2; more++) {
                boolean want = more >= 1 && more <= most && less >= 0 && less <= more;
                isOne(check, x, kind, kind == 2 ? less : more, kind == 2 ? more : less, want);
            }
        }
        TapeCounter x = new TapeCounter();
        for (int wild : WILD) {
            isOne(check, x, kind, wild, 3, false);
            isOne(check, x, kind, 3, wild, false);
            isOne(check, x, kind, wild, wild, false);
        }
    }

    private static void ofNoKind(Check check) {
        TapeCounter x = new TapeCounter();
        for (int kind : new int[] {-1, 8, 9, 15, 256, Integer.MIN_VALUE, Integer.MAX_VALUE}) {
            isOne(check, x, kind, 1, 1, false);
        }
    }

    private static void ofWeights(Check check) {
        TapeCounter x = new TapeCounter();
        isOne(check, x, 7, -9, 99, true);
        for (int i = 0; i < 8; i++) {
            x.weigh(i, 0);
        }
        isOne(check, x, 7, 1, 1, false);
        x.weigh(7, 1);
        isOne(check, x, 7, 0, 0, true);
        for (int i = 0; i < 4; i++) {
            x.weigh(i, 15);
        }
        x.weigh(4, 3);
        isOne(check, x, 7, 0, 0, true);
        x.weigh(4, 4);
        isOne(check, x, 7, 0, 0, false);
        isOne(check, x, 0, 1, 1, true);
        x.weigh(7, 0);
        isOne(check, x, 7, Integer.MIN_VALUE, Integer.MAX_VALUE, true);
    }
}
