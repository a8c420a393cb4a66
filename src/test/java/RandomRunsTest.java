import java.util.Random;

/** All promises together against the model: long runs of mixed calls, wrong ones among them. */
public final class RandomRunsTest {
    private static final Check CHECK = new Check();
    private static final int MOST_CALLS = 512;
    private static final int MOST_AT_ONCE = 8;
    private static final int[] WILD = {Integer.MIN_VALUE, -1, 65, 257, Integer.MAX_VALUE};

    public static void main(String[] args) {
        // a fixed seed, so that a run that fails can be run again
        Random random = new Random(20261115);
        for (int run = 0; run < 300; run++) {
            TapeCounter x = new TapeCounter();
            Model y = new Model();
            int calls = 0;
            while (calls + MOST_AT_ONCE <= MOST_CALLS) {
                String where = "run " + run + ", behind " + calls + " calls: ";
                calls += callBoth(random, x, y, where);
                CHECK.due(where + "left()", x.left(), y.left());
                CHECK.due(where + "spent()", x.spent(), y.spent());
                calls += 2;
            }
        }
        CHECK.end();
    }

    /** Mostly a number from 0 to most, now and then one that is far away. */
    private static int some(Random random, int most) {
        return random.nextInt(40) == 0 ? WILD[random.nextInt(WILD.length)] : random.nextInt(most + 1);
    }

    /** Makes a call, or some of a sort, and answers how many. */
    private static int callBoth(Random random, TapeCounter x, Model y, String where) {
        int kind = some(random, 7);
        int a = some(random, kind < 3 ? 65 : kind < 5 ? 13 : 6);
        int b = some(random, kind == 2 ? 65 : 6);
        int length = some(random, 12);
        int value = some(random, kind < 2 ? 63 : 12);
        String call = kind + ", " + a + ", " + b;
        switch (random.nextInt(10)) {
            case 0, 1, 2 -> feedBoth(random, x, y, where);
            case 3 -> {
                weighBoth(random, x, y, where);
                return 2;
            }
            case 4 -> CHECK.due(where + "isOne(" + call + ")", x.isOne(kind, a, b), y.isOne(kind, a, b));
            case 5 -> CHECK.due(where + "count(" + call + ", " + length + ", " + value + ")",
                x.count(kind, a, b, length, value), y.count(kind, a, b, length, value));
            case 6 -> CHECK.due(where + "fails(" + call + ", " + length + ")",
                x.fails(kind, a, b, length), y.fails(kind, a, b, length));
            case 7 -> CHECK.due(where + "work(" + call + ", " + length + ")",
                x.work(kind, a, b, length), y.work(kind, a, b, length));
            case 8 -> CHECK.due(where + "first(" + call + ", " + value + ")",
                x.first(kind, a, b, value), y.first(kind, a, b, value));
            default -> {
                return drawBoth(random, x, y, where);
            }
        }
        return 1;
    }

    private static void feedBoth(Random random, TapeCounter x, Model y, String where) {
        // rows of ones make the samplers begin anew often
        int bits = random.nextInt(4) == 0 ? -1 : random.nextInt();
        int n = some(random, 33);
        CHECK.due(where + "feed(" + bits + ", " + n + ")", x.feed(bits, n), y.feed(bits, n));
    }

    private static void weighBoth(Random random, TapeCounter x, Model y, String where) {
        int i = some(random, 8);
        int w = some(random, 16);
        CHECK.due(where + "weigh(" + i + ", " + w + ")", x.weigh(i, w), y.weigh(i, w));
        CHECK.due(where + "weight(" + i + ")", x.weight(i), y.weight(i));
    }

    /** Draws with numbers that fit mostly, so that the tape moves. */
    private static int drawBoth(Random random, TapeCounter x, Model y, String where) {
        int draws = 1 + random.nextInt(6);
        for (int n = 0; n < draws; n++) {
            int kind = some(random, 7);
            int b = 1 + some(random, kind == 2 ? 63 : 5);
            int a = kind < 2 ? 1 + some(random, 63) : kind == 2 ? some(random, 64) : 1 + some(random, 5);
            CHECK.due(where + "draw(" + kind + ", " + a + ", " + b + ")", x.draw(kind, a, b), y.draw(kind, a, b));
        }
        return draws;
    }
}
