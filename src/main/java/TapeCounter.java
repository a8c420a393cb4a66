/**
 * Samplers that draw numbers, sets and orders from the bits of a tape, and how often each value
 * comes on all tapes of some length.
 */
public final class TapeCounter {
    /** The answer of a call that is refused, and of a draw that has run out. */
    public static final int NONE = -1;

    private static final int PLAIN = 0;
    private static final int THRIFTY = 1;
    private static final int COIN = 2;
    private static final int TOSSES = 3;
    private static final int WAIT = 4;
    private static final int ORDER = 5;
    private static final int CHOICE = 6;
    private static final int SHARES = 7;

    private static final int MOST_SIDES = 64;
    private static final int MOST_SIDES_BITS = 6;
    private static final int MOST_TOSSES = 12;
    private static final int MOST_ORDERED = 4;
    private static final int MOST_CHOICES = 6;
    private static final int WEIGHTS = 8;
    private static final int MOST_WEIGHT = 15;

    private static final int TAPE_BITS = 256;
    private static final int FEED_BITS = 32;
    private static final int MOST_LENGTH = 12;

    private final int[] weights;
    private final int[] row;
    private final Tape tape;
    private final Tape trial;
    private final Tally tally;
    private int latestSpent;

    /** An empty tape; all weights 1. */
    public TapeCounter() {
        weights = new int[WEIGHTS];
        for (int i = 0; i < WEIGHTS; i++) {
            weights[i] = 1;
        }
        row = new int[MOST_ORDERED];
        tape = new Tape(TAPE_BITS);
        trial = new Tape(MOST_LENGTH);
        tally = new Tally();
        latestSpent = 0;
    }

    /** Weight i becomes w; false when there is no such weight or it can't be w. */
    public boolean weigh(int i, int w) {
        if (!isWithin(i, 0, WEIGHTS - 1) || !isWithin(w, 0, MOST_WEIGHT)) {
            return false;
        }
        weights[i] = w;
        return true;
    }

    /** Weight i; NONE when there is none such. */
    public int weight(int i) {
        return isWithin(i, 0, WEIGHTS - 1) ? weights[i] : NONE;
    }

    /** Puts the lowest n bits behind the tape's, the highest first, and answers its size. */
    public int feed(int bits, int n) {
        return tape.append(bits, n) ? tape.size() : NONE;
    }

    /** How many bits the tape has. */
    public int left() {
        return tape.size();
    }

    /** Whether there is a sampler of this kind with these numbers, and with the weights as they are. */
    public boolean isOne(int kind, int a, int b) {
        switch (kind) {
            case PLAIN:
            case THRIFTY:
                return isWithin(a, 1, MOST_SIDES);
            case COIN:
                return isWithin(b, 1, MOST_SIDES) && isWithin(a, 0, b);
            case TOSSES:
            case WAIT:
                return isWithin(a, 0, MOST_TOSSES);
            case ORDER:
                return isWithin(a, 1, MOST_ORDERED);
            case CHOICE:
                return isWithin(a, 1, MOST_CHOICES) && isWithin(b, 0, a);
            case SHARES:
                return isWithin(weightSum(), 1, MOST_SIDES);
            default:
                return false;
        }
    }

    /** Draws a value from the tape; NONE, and nothing goes, when that can't be. */
    public int draw(int kind, int a, int b) {
        if (!isOne(kind, a, b)) {
            return NONE;
        }
        tape.rewind();
        int value = sample(tape, kind, a, b);
        if (value == NONE) {
            return NONE;
        }
        latestSpent = tape.readSoFar();
        tape.dropRead();
        return value;
    }

    /** How many bits the latest draw that gave a value has read. */
    public int spent() {
        return latestSpent;
    }

    /** On how many of all tapes of a length the sampler gives the value. */
    public int count(int kind, int a, int b, int length, int value) {
        if (!isCountable(kind, a, b, length)) {
            return NONE;
        }
        tryAllTapes(kind, a, b, length, value);
        return tally.hits;
    }

    /** On how many of all tapes of a length the sampler runs out. */
    public int fails(int kind, int a, int b, int length) {
        if (!isCountable(kind, a, b, length)) {
            return NONE;
        }
        tryAllTapes(kind, a, b, length, NONE);
        return tally.runOuts;
    }

    /** How many bits the sampler reads on all tapes of a length together. */
    public int work(int kind, int a, int b, int length) {
        if (!isCountable(kind, a, b, length)) {
            return NONE;
        }
        tryAllTapes(kind, a, b, length, NONE);
        return tally.bitsRead;
    }

    /** The least length of a tape on which the sampler gives the value; 13 when none is so short. */
    public int first(int kind, int a, int b, int value) {
        if (!isOne(kind, a, b)) {
            return NONE;
        }
        // What a sampler gives after r bits of a long tape it gives on those r bits alone,
        // so the longest tapes show the short ones too.
        tryAllTapes(kind, a, b, MOST_LENGTH, value);
        return tally.fewestBits;
    }

    private static boolean isWithin(int number, int least, int most) {
        return number >= least && number <= most;
    }

    private boolean isCountable(int kind, int a, int b, int length) {
        return isWithin(length, 0, MOST_LENGTH) && isOne(kind, a, b);
    }

    private int weightSum() {
        int sum = 0;
        for (int i = 0; i < WEIGHTS; i++) {
            sum += weights[i];
        }
        return sum;
    }

    /** Fills the tally from all tapes of a length, taken in the order of the numbers they make. */
    private void tryAllTapes(int kind, int a, int b, int length, int value) {
        tally.clear();
        int all = 1 << length;
        int alike = 1;
        for (int number = 0; number < all; number += Math.max(1, alike)) {
            trial.clear();
            trial.append(number, length);
            int got = sample(trial, kind, a, b);
            // Tapes that differ only in bits that were not read go the same way, and they stand
            // together behind this one, so one trial speaks for all of them.
            alike = 1 << (length - trial.readSoFar());
            tally.add(got, value, trial.readSoFar(), alike);
        }
    }

    /** The value that a sampler gives, which must be one; NONE when the tape has run out. */
    private int sample(Tape from, int kind, int a, int b) {
        switch (kind) {
            case PLAIN:
                return plain(from, a);
            case THRIFTY:
                return thrifty(from, a);
            case COIN:
                return coin(from, a, b);
            case TOSSES:
                return tosses(from, a);
            case WAIT:
                return zerosBeforeOne(from, a);
            case ORDER:
                return order(from, a);
            case CHOICE:
                return choice(from, a, b);
            case SHARES:
                return share(from);
            default:
                return NONE;
        }
    }

    private static int plain(Tape from, int a) {
        int k = bitsFor(a);
        // A round that does not end it has read a bit at least: of one side alone the first ends it.
        for (int round = 0; round <= TAPE_BITS; round++) {
            int number = from.readNumber(k);
            if (number == NONE || number < a) {
                return number;
            }
        }
        return NONE;
    }

    /** The least k with 2^k at least a. */
    private static int bitsFor(int a) {
        int k = 0;
        while (k < MOST_SIDES_BITS && (1 << k) < a) {
            k++;
        }
        return k;
    }

    private static int thrifty(Tape from, int a) {
        int range = 1;
        int number = 0;
        for (int step = 0; step <= TAPE_BITS; step++) {
            if (range >= a) {
                if (number < a) {
                    return number;
                }
                // The range was less than twice a, so it is less than a now and a bit must be read.
                range -= a;
                number -= a;
            }
            int bit = from.readBit();
            if (bit == NONE) {
                return NONE;
            }
            range = 2 * range;
            number = 2 * number + bit;
        }
        return NONE;
    }

    private static int coin(Tape from, int a, int b) {
        int held = a;
        for (int step = 0; step <= TAPE_BITS; step++) {
            if (held == 0) {
                return 0;
            }
            if (held == b) {
                return 1;
            }
            int bit = from.readBit();
            if (bit == NONE) {
                return NONE;
            }
            held = 2 * held;
            int digit = held >= b ? 1 : 0;
            if (digit == 1) {
                held -= b;
            }
            if (bit != digit) {
                return digit;
            }
        }
        return NONE;
    }

    private static int tosses(Tape from, int a) {
        int ones = 0;
        for (int i = 0; i < a; i++) {
            int bit = from.readBit();
            if (bit == NONE) {
                return NONE;
            }
            ones += bit;
        }
        return ones;
    }

    private static int zerosBeforeOne(Tape from, int a) {
        for (int zeros = 0; zeros < a; zeros++) {
            int bit = from.readBit();
            if (bit == NONE) {
                return NONE;
            }
            if (bit == 1) {
                return zeros;
            }
        }
        return a;
    }

    private int order(Tape from, int a) {
        for (int i = 0; i < a; i++) {
            row[i] = i;
        }
        for (int i = a - 1; i >= 1; i--) {
            int j = plain(from, i + 1);
            if (j == NONE) {
                return NONE;
            }
            int moved = row[i];
            row[i] = row[j];
            row[j] = moved;
        }
        return ordersBeforeRow(a);
    }

    /** How many orders of the row's first a numbers come before it. */
    private int ordersBeforeRow(int a) {
        int before = 0;
        for (int i = 0; i < a; i++) {
            int lessBehind = 0;
            for (int j = i + 1; j < a; j++) {
                if (row[j] < row[i]) {
                    lessBehind++;
                }
            }
            before = before * (a - i) + lessBehind;
        }
        return before;
    }

    private static int choice(Tape from, int a, int b) {
        int taken = 0;
        int set = 0;
        for (int i = 0; i < a; i++) {
            int bit = coin(from, b - taken, a - i);
            if (bit == NONE) {
                return NONE;
            }
            taken += bit;
            set |= bit << i;
        }
        return set;
    }

    private int share(Tape from) {
        int number = plain(from, weightSum());
        if (number == NONE) {
            return NONE;
        }
        int sum = 0;
        for (int i = 0; i < WEIGHTS; i++) {
            sum += weights[i];
            if (sum > number) {
                return i;
            }
        }
        // Not come to: the number is less than the sum of all weights.
        return NONE;
    }

    /** A row of bits, and how many of them have been read. */
    private static final class Tape {
        private final int[] bits;
        private int size;
        private int at;

        Tape(int most) {
            bits = new int[most];
            size = 0;
            at = 0;
        }

        int size() {
            return size;
        }

        int readSoFar() {
            return at;
        }

        void clear() {
            size = 0;
            at = 0;
        }

        void rewind() {
            at = 0;
        }

        /** Puts the lowest n bits of a number behind the others; false when that can't be. */
        boolean append(int number, int n) {
            if (n < 0 || n > FEED_BITS || n > bits.length - size) {
                return false;
            }
            for (int i = n - 1; i >= 0; i--) {
                bits[size] = (number >>> i) & 1;
                size++;
            }
            return true;
        }

        /** The next bit; NONE when there is none. */
        int readBit() {
            if (at >= size) {
                return NONE;
            }
            int bit = bits[at];
            at++;
            return bit;
        }

        /** The number that the next k bits make; NONE, with all bits read, when there are fewer. */
        int readNumber(int k) {
            int number = 0;
            for (int i = 0; i < k; i++) {
                int bit = readBit();
                if (bit == NONE) {
                    return NONE;
                }
                number = 2 * number + bit;
            }
            return number;
        }

        void dropRead() {
            System.arraycopy(bits, at, bits, 0, size - at);
            size -= at;
            at = 0;
        }
    }

    /** What the tapes of one length have shown. */
    private static final class Tally {
        private int hits;
        private int runOuts;
        private int bitsRead;
        private int fewestBits;

        void clear() {
            hits = 0;
            runOuts = 0;
            bitsRead = 0;
            fewestBits = MOST_LENGTH + 1;
        }

        /** So many tapes gave what was got, each after so many bits. */
        void add(int got, int wanted, int bits, int tapes) {
            bitsRead += bits * tapes;
            if (got == NONE) {
                runOuts += tapes;
            } else if (got == wanted) {
                hits += tapes;
                fewestBits = Math.min(fewestBits, bits);
            }
        }
    }
}
