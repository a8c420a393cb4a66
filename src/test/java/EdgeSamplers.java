/** Samplers whose numbers stand at the ends of their ranges, and what each gives on zeros. */
final class EdgeSamplers {
    private static final int LOW = Integer.MIN_VALUE;
    private static final int HIGH = Integer.MAX_VALUE;

    /** Kind, A, B, the value on a tape of zeros, and the bits that it reads there; all weights are 1. */
    static final int[][] ALL = {
        {0, 1, LOW, 0, 0}, {0, 1, HIGH, 0, 0}, {0, 2, 0, 0, 1}, {0, 63, -1, 0, 6}, {0, 64, LOW, 0, 6}, {0, 64, HIGH, 0, 6},
        {1, 1, LOW, 0, 0}, {1, 1, HIGH, 0, 0}, {1, 2, 0, 0, 1}, {1, 63, -1, 0, 6}, {1, 64, LOW, 0, 6}, {1, 64, HIGH, 0, 6},
        // a 64th is 0.000001 and a half 0.1: the first 0 that stands for a 1 gives 1
        {2, 0, 1, 0, 0}, {2, 1, 1, 1, 0}, {2, 0, 2, 0, 0}, {2, 1, 2, 1, 1}, {2, 2, 2, 1, 0},
        {2, 0, 64, 0, 0}, {2, 1, 64, 1, 6}, {2, 63, 64, 1, 1}, {2, 64, 64, 1, 0}, {2, 63, 63, 1, 0},
        {3, 0, LOW, 0, 0}, {3, 0, HIGH, 0, 0}, {3, 1, 0, 0, 1}, {3, 12, LOW, 0, 12}, {3, 12, HIGH, 0, 12},
        {4, 0, LOW, 0, 0}, {4, 0, HIGH, 0, 0}, {4, 1, 0, 1, 1}, {4, 12, LOW, 12, 12}, {4, 12, HIGH, 12, 12},
        // of 4: 3 1 2 0, then 2 1 3 0, then 1 2 3 0, which is the tenth
        {5, 1, LOW, 0, 0}, {5, 1, HIGH, 0, 0}, {5, 2, 0, 1, 1}, {5, 4, LOW, 9, 5}, {5, 4, HIGH, 9, 5},
        // 1 of 6: a sixth is 0.001..; 5 of 6: each of the first five by one bit
        {6, 1, 0, 0, 0}, {6, 1, 1, 1, 0}, {6, 6, 0, 0, 0}, {6, 6, 1, 1, 3}, {6, 6, 5, 31, 5}, {6, 6, 6, 63, 0},
        {7, LOW, HIGH, 0, 3}, {7, HIGH, LOW, 0, 3}, {7, 0, 0, 0, 3}};

    private EdgeSamplers() { }
}
