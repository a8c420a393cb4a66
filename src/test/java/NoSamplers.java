/** Kinds and numbers, each just or far beyond an edge, for which there is no sampler. */
final class NoSamplers {
    private static final int LOW = Integer.MIN_VALUE;
    private static final int HIGH = Integer.MAX_VALUE;

    static final int[][] ALL = {
        {-1, 1, 1}, {8, 1, 1}, {LOW, 1, 1}, {HIGH, 1, 1}, {LOW + 7, 1, 1}, {HIGH - 7, 1, 1}, {256, 1, 1},
        {LOW, LOW, LOW}, {HIGH, HIGH, HIGH}, {LOW, HIGH, HIGH}, {HIGH, LOW, LOW}, {-1, LOW, HIGH}, {8, HIGH, LOW},
        {0, 0, 1}, {0, 65, 1}, {0, LOW, 1}, {0, HIGH, 1}, {0, LOW, LOW}, {0, HIGH, HIGH},
        {1, 0, 1}, {1, 65, 1}, {1, LOW, 1}, {1, HIGH, 1}, {1, LOW, LOW}, {1, HIGH, HIGH},
        {2, -1, 3}, {2, 4, 3}, {2, -1, 1}, {2, 2, 1}, {2, -1, 64}, {2, 65, 64},
        {2, 0, 0}, {2, -1, 0}, {2, 1, 0}, {2, 0, 65}, {2, 1, 65}, {2, 64, 65}, {2, 65, 65}, {2, 0, -1}, {2, -1, -1},
        {2, LOW, 3}, {2, HIGH, 3}, {2, 3, LOW}, {2, 0, LOW}, {2, 3, HIGH}, {2, 0, HIGH},
        {2, LOW, HIGH}, {2, HIGH, LOW}, {2, HIGH, HIGH}, {2, LOW, LOW},
        {3, -1, 1}, {3, 13, 1}, {3, LOW, 1}, {3, HIGH, 1}, {3, LOW, LOW}, {3, HIGH, HIGH},
        {4, -1, 1}, {4, 13, 1}, {4, LOW, 1}, {4, HIGH, 1}, {4, LOW, LOW}, {4, HIGH, HIGH},
        {5, 0, 1}, {5, 5, 1}, {5, LOW, 1}, {5, HIGH, 1}, {5, LOW, LOW}, {5, HIGH, HIGH},
        {6, 0, 0}, {6, 0, 1}, {6, -1, -1}, {6, -1, 0}, {6, 7, 0}, {6, 7, 3}, {6, 7, 7},
        {6, 1, -1}, {6, 1, 2}, {6, 3, -1}, {6, 3, 4}, {6, 6, -1}, {6, 6, 7},
        {6, LOW, 0}, {6, HIGH, 0}, {6, 3, LOW}, {6, 3, HIGH},
        {6, LOW, HIGH}, {6, HIGH, LOW}, {6, LOW, LOW}, {6, HIGH, HIGH}};

    private NoSamplers() { }
}
