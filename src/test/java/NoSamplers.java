/** Kinds and numbers, each just or far beyond an edge, for which there is no sampler. */
final class NoSamplers {
    private static final int LOW = Integer.MIN_VALUE;
    private static final int HIGH = Integer.MAX_VALUE;

    static final int[][] ALL = {
        {-1, 1, 1}, {8, 1, 1}, {LOW, 1, 1}, {HIGH, 1, 1},
        {0, 0, 0}, {0, 65, 0}, {0, LOW, 0}, {0, HIGH, 0},
        {1, 0, 0}, {1, 65, 0}, {1, LOW, 0}, {1, HIGH, 0},
        {2, -1, 3}, {2, 4, 3}, {2, 0, 0}, {2, 1, 65}, {2, LOW, HIGH}, {2, HIGH, HIGH}, {2, LOW, LOW},
        {3, -1, 0}, {3, 13, 0}, {3, LOW, 0}, {3, HIGH, 0},
        {4, -1, 0}, {4, 13, 0}, {4, LOW, 0}, {4, HIGH, 0},
        {5, 0, 0}, {5, 5, 0}, {5, LOW, 0}, {5, HIGH, 0},
        {6, 0, 0}, {6, 7, 3}, {6, 3, -1}, {6, 3, 4}, {6, LOW, LOW}, {6, HIGH, HIGH}, {6, HIGH, 0}};

    private NoSamplers() { }
}
