import java.util.function.ToIntFunction;

/** An object in a state that is known whole, so that a call that changes any of it is found out. */
final class Known {
    static final int LOW = Integer.MIN_VALUE;
    static final int HIGH = Integer.MAX_VALUE;
    static final int[] ONES = {1, 1, 1, 1, 1, 1, 1, 1};
    static final int[] MIXED = {0, 15, 2, 1, 0, 7, 3, 1};
    static final int[] MAKE_0 = {0, 0, 0, 0, 0, 0, 0, 0};
    static final int[] MAKE_1 = {0, 0, 0, 0, 0, 0, 0, 1};
    static final int[] MAKE_64 = {15, 15, 15, 15, 4, 0, 0, 0};
    static final int[] MAKE_65 = {15, 15, 15, 15, 4, 0, 0, 1};
    static final int[] MAKE_120 = {15, 15, 15, 15, 15, 15, 15, 15};

    private final Check check;
    private final int[] weights;
    private final String tape;
    private final int spent;
    private final TapeCounter x = new TapeCounter();

    /** Brings a new object to these weights, this tape and so many (0 .. 12) bits that were spent. */
    Known(Check check, int[] weights, String tape, int spent) {
        this.check = check;
        this.weights = weights;
        this.tape = tape;
        this.spent = spent;
        for (int i = 0; i < 8; i++) {
            x.weigh(i, weights[i]);
        }
        x.feed(0, spent);
        x.draw(3, spent, 0);
        feedAll(x, tape);
    }

    static Known tape(Check check, String tape) {
        return new Known(check, ONES, tape, 0);
    }

    /** A tape of 0 and 1 in no order that a shift by a few places would leave as it is. */
    static String mixedBits(int n) {
        StringBuilder bits = new StringBuilder();
        for (int i = 0; bits.length() < n; i++) {
            bits.append(Integer.toBinaryString(i * i + 1));
        }
        return bits.substring(0, n);
    }

    static void feedAll(TapeCounter x, String bits) {
        for (int at = 0; at < bits.length(); at += 32) {
            String part = bits.substring(at, Math.min(at + 32, bits.length()));
            x.feed(Integer.parseUnsignedInt(part, 2), part.length());
        }
    }

    /** In states of every sort the call answers what is due, and changes nothing. */
    static void leavesEach(Check check, String call, int want, ToIntFunction<TapeCounter> made) {
        new Known(check, ONES, "", 0).leaves(call + " of a new object", want, made);
        new Known(check, MIXED, mixedBits(21), 5).leaves(call + " of a used object", want, made);
        new Known(check, MAKE_0, "1", 1).leaves(call + " with weights of 0", want, made);
        new Known(check, MAKE_120, "1".repeat(255), 7).leaves(call + " with weights of 15", want, made);
        new Known(check, MAKE_64, mixedBits(256), 12).leaves(call + " of a full tape", want, made);
    }

    /** The call answers what is due and changes nothing; the object is used up by it. */
    void leaves(String call, int want, ToIntFunction<TapeCounter> made) {
        check.due(call, made.applyAsInt(x), want);
        isAsItWas("behind " + call);
    }

    private void isAsItWas(String where) {
        for (int i = 0; i < 8; i++) {
            check.due("weight(" + i + ") " + where, x.weight(i), weights[i]);
        }
        check.due("spent() " + where, x.spent(), spent);
        holds(check, x, tape, where);
    }

    /** The tape has just these bits; it is empty afterwards. */
    static void holds(Check check, TapeCounter x, String tape, String where) {
        check.due("left() " + where, x.left(), tape.length());
        for (int i = 0; i < tape.length(); i++) {
            check.due("bit " + i + " " + where, x.draw(3, 1, 0), tape.charAt(i) - '0');
        }
        check.due("a bit more " + where, x.draw(3, 1, 0), TapeCounter.NONE);
        check.due("left() at the end, " + where, x.left(), 0);
    }
}
