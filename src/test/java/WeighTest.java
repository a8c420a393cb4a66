/** Promises 2 and 3: weigh and weight. */
public final class WeighTest {
    private static final int[] NO_PLACES = {-1, 8, 9, 100, Integer.MIN_VALUE, Integer.MAX_VALUE};
    private static final int[] NO_WEIGHTS = {-1, 16, 17, 256, Integer.MIN_VALUE, Integer.MAX_VALUE};

    public static void main(String[] args) {
        Check check = new Check();
        setsOneAlone(check);
        takesEachWeight(check);
        refuses(check);
        check.end();
    }

    private static void setsOneAlone(Check check) {
        for (int i = 0; i < 8; i++) {
            TapeCounter x = new TapeCounter();
            check.due("weigh(" + i + ", 6)", x.weigh(i, 6), true);
            for (int j = 0; j < 8; j++) {
                check.due("weight(" + j + ") behind weigh(" + i + ", 6)", x.weight(j), j == i ? 6 : 1);
            }
        }
    }

    private static void takesEachWeight(Check check) {
        TapeCounter x = new TapeCounter();
        for (int w = 0; w <= 15; w++) {
            check.due("weigh(0, " + w + ")", x.weigh(0, w), true);
            check.due("weight(0)", x.weight(0), w);
            check.due("weigh(7, " + w + ")", x.weigh(7, 15 - w), true);
            check.due("weight(7)", x.weight(7), 15 - w);
        }
    }

    private static void refuses(Check check) {
        TapeCounter x = new TapeCounter();
        x.weigh(2, 5);
        for (int i : NO_PLACES) {
            check.due("weigh(" + i + ", 3)", x.weigh(i, 3), false);
            check.due("weight(" + i + ")", x.weight(i), TapeCounter.NONE);
        }
        for (int w : NO_WEIGHTS) {
            check.due("weigh(2, " + w + ")", x.weigh(2, w), false);
        }
        for (int i = 0; i < 8; i++) {
            check.due("weight(" + i + ") behind what was refused", x.weight(i), i == 2 ? 5 : 1);
        }
    }
}
