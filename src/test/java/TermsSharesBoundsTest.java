/** Terms, kind 7: 'of the eight WEIGHTS, 0 .. 15, whose sum must be 1 .. 64 (each is 1 at first; A and B are of no matter)' */
public final class TermsSharesBoundsTest {
    private static final Check CHECK = new Check();
    private static final int[][] NO_MATTER = {{0, 0}, {1, 1}, {-1, 65}, {Known.LOW, Known.HIGH}, {Known.HIGH, Known.LOW}};

    public static void main(String[] args) {
        isNoneOf(Known.MAKE_0);
        isOneOf(Known.MAKE_1, 7, 0);
        isOneOf(Known.MAKE_64, 0, 6);
        isNoneOf(Known.MAKE_65);
        isNoneOf(Known.MAKE_120);
        isOneOf(Known.ONES, 0, 3);
        eachIsOneAtFirst();
        ofOneWeightAlone();
        ofTheMostWeights();
        passesOverWeightsOfZero();
        CHECK.end();
    }

    private static void isNoneOf(int[] weights) {
        for (int[] ab : NO_MATTER) {
            int a = ab[0];
            int b = ab[1];
            String call = "(7, " + a + ", " + b + ") of " + java.util.Arrays.toString(weights);
            String bits = "0".repeat(8);
            of(weights, bits).leaves("isOne" + call, 0, x -> x.isOne(7, a, b) ? 1 : 0);
            of(weights, bits).leaves("draw" + call, TapeCounter.NONE, x -> x.draw(7, a, b));
            of(weights, bits).leaves("count" + call, TapeCounter.NONE, x -> x.count(7, a, b, 12, 0));
            of(weights, bits).leaves("fails" + call, TapeCounter.NONE, x -> x.fails(7, a, b, 12));
            of(weights, bits).leaves("work" + call, TapeCounter.NONE, x -> x.work(7, a, b, 12));
            of(weights, bits).leaves("first" + call, TapeCounter.NONE, x -> x.first(7, a, b, 0));
        }
    }

    /** On zeros it gives the value, and it reads so many bits on every tape that is long enough. */
    private static void isOneOf(int[] weights, int value, int bits) {
        for (int[] ab : NO_MATTER) {
            int a = ab[0];
            int b = ab[1];
            String call = "(7, " + a + ", " + b + ") of " + java.util.Arrays.toString(weights);
            String tape = "0".repeat(bits);
            of(weights, tape).leaves("isOne" + call, 1, x -> x.isOne(7, a, b) ? 1 : 0);
            of(weights, tape).leaves("fails" + call, 0, x -> x.fails(7, a, b, 12));
            of(weights, tape).leaves("work" + call, bits * 4096, x -> x.work(7, a, b, 12));
            of(weights, tape).leaves("first" + call, bits, x -> x.first(7, a, b, value));
            TapeCounter x = weighed(weights);
            Known.feedAll(x, tape);
            CHECK.due("draw" + call, x.draw(7, a, b), value);
            CHECK.due("left() behind draw" + call, x.left(), 0);
        }
    }

    private static Known of(int[] weights, String tape) {
        return new Known(CHECK, weights, tape, 2);
    }

    private static TapeCounter weighed(int[] weights) {
        TapeCounter x = new TapeCounter();
        for (int i = 0; i < 8; i++) {
            x.weigh(i, weights[i]);
        }
        return x;
    }

    /** The number that is drawn makes SHARES give the value. */
    private static void gives(int[] weights, int bits, int number, int value) {
        TapeCounter x = weighed(weights);
        x.feed(number, bits);
        CHECK.due("draw(7, 0, 0) of the number " + number, x.draw(7, 0, 0), value);
        CHECK.due("spent() of the number " + number, x.spent(), bits);
    }

    private static void eachIsOneAtFirst() {
        TapeCounter x = new TapeCounter();
        for (int i = 0; i < 8; i++) {
            CHECK.due("weight(" + i + ")", x.weight(i), 1);
            CHECK.due("count(7, 0, 0, 3, " + i + ")", x.count(7, 0, 0, 3, i), 1);
            x.feed(i, 3);
            CHECK.due("draw(7, 0, 0) of the number " + i, x.draw(7, 0, 0), i);
        }
        CHECK.due("count(7, 0, 0, 3, 8)", x.count(7, 0, 0, 3, 8), 0);
    }

    private static void ofOneWeightAlone() {
        for (int i = 0; i < 8; i++) {
            int[] weights = new int[8];
            weights[i] = 1;
            gives(weights, 0, 0, i);
            weights[i] = 15;
            gives(weights, 4, 0, i);
            gives(weights, 4, 14, i);
        }
    }

    /** The number is the same as a sum of weights: then the next weight has it. */
    private static void ofTheMostWeights() {
        gives(Known.MAKE_64, 6, 0, 0);
        gives(Known.MAKE_64, 6, 14, 0);
        gives(Known.MAKE_64, 6, 15, 1);
        gives(Known.MAKE_64, 6, 29, 1);
        gives(Known.MAKE_64, 6, 30, 2);
        gives(Known.MAKE_64, 6, 44, 2);
        gives(Known.MAKE_64, 6, 45, 3);
        gives(Known.MAKE_64, 6, 59, 3);
        gives(Known.MAKE_64, 6, 60, 4);
        gives(Known.MAKE_64, 6, 63, 4);
    }

    private static void passesOverWeightsOfZero() {
        int[] weights = {0, 1, 0, 2, 0, 0, 0, 1};
        gives(weights, 2, 0, 1);
        gives(weights, 2, 1, 3);
        gives(weights, 2, 2, 3);
        gives(weights, 2, 3, 7);
    }
}
