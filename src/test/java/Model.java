import java.util.ArrayList;
import java.util.Arrays;
import java.util.List;

/**
 * The document's words, done in the slowest way: tapes are texts, and to count is to try each tape.
 * It shares no code with the program, so that an error of the one is not an error of the other.
 */
final class Model {
    static final int NONE = -1;

    private static final class RunOut extends RuntimeException {
        private static final long serialVersionUID = 1L;
    }

    /** What a sampler did on one tape; a value of NONE says that it has run out. */
    record Outcome(int value, int read) { }

    private static final class Bits {
        private final String text;
        private int at = 0;

        Bits(String text) {
            this.text = text;
        }

        int next() {
            if (at == text.length()) {
                throw new RunOut();
            }
            return text.charAt(at++) - '0';
        }

        int next(int k) {
            String made = "0";
            for (int i = 0; i < k; i++) {
                made += next();
            }
            return Integer.parseInt(made, 2);
        }
    }

    private final int[] weights = {1, 1, 1, 1, 1, 1, 1, 1};
    private String tape = "";
    private int spent = 0;

    boolean weigh(int i, int w) {
        if (i < 0 || i > 7 || w < 0 || w > 15) {
            return false;
        }
        weights[i] = w;
        return true;
    }

    int weight(int i) {
        return i < 0 || i > 7 ? NONE : weights[i];
    }

    int feed(int bits, int n) {
        if (n < 0 || n > 32 || tape.length() + n > 256) {
            return NONE;
        }
        String all = "0".repeat(32) + Integer.toBinaryString(bits);
        tape += all.substring(all.length() - n);
        return tape.length();
    }

    int left() {
        return tape.length();
    }

    boolean isOne(int kind, int a, int b) {
        return switch (kind) {
            case 0, 1 -> 1 <= a && a <= 64;
            case 2 -> 1 <= b && b <= 64 && 0 <= a && a <= b;
            case 3, 4 -> 0 <= a && a <= 12;
            case 5 -> 1 <= a && a <= 4;
            case 6 -> 1 <= a && a <= 6 && 0 <= b && b <= a;
            case 7 -> 1 <= Arrays.stream(weights).sum() && Arrays.stream(weights).sum() <= 64;
            default -> false;
        };
    }

    int draw(int kind, int a, int b) {
        if (!isOne(kind, a, b)) {
            return NONE;
        }
        Outcome outcome = run(tape, kind, a, b);
        if (outcome.value() != NONE) {
            tape = tape.substring(outcome.read());
            spent = outcome.read();
        }
        return outcome.value();
    }

    int spent() {
        return spent;
    }

    int count(int kind, int a, int b, int length, int value) {
        if (length < 0 || length > 12 || !isOne(kind, a, b)) {
            return NONE;
        }
        int hits = 0;
        for (Outcome outcome : onAll(kind, a, b, length)) {
            hits += outcome.value() != NONE && outcome.value() == value ? 1 : 0;
        }
        return hits;
    }

    int fails(int kind, int a, int b, int length) {
        if (length < 0 || length > 12 || !isOne(kind, a, b)) {
            return NONE;
        }
        int failed = 0;
        for (Outcome outcome : onAll(kind, a, b, length)) {
            failed += outcome.value() == NONE ? 1 : 0;
        }
        return failed;
    }

    int work(int kind, int a, int b, int length) {
        if (length < 0 || length > 12 || !isOne(kind, a, b)) {
            return NONE;
        }
        int read = 0;
        for (Outcome outcome : onAll(kind, a, b, length)) {
            read += outcome.value() == NONE ? length : outcome.read();
        }
        return read;
    }

    int first(int kind, int a, int b, int value) {
        if (!isOne(kind, a, b)) {
            return NONE;
        }
        for (int length = 0; length <= 12; length++) {
            if (count(kind, a, b, length, value) > 0) {
                return length;
            }
        }
        return 13;
    }

    /** What the sampler does on each of all tapes of a length. */
    List<Outcome> onAll(int kind, int a, int b, int length) {
        List<Outcome> outcomes = new ArrayList<>();
        for (int number = 0; number < 1 << length; number++) {
            String ending = "0".repeat(12) + Integer.toBinaryString(number);
            outcomes.add(run(ending.substring(ending.length() - length), kind, a, b));
        }
        return outcomes;
    }

    private Outcome run(String text, int kind, int a, int b) {
        Bits bits = new Bits(text);
        try {
            return new Outcome(value(bits, kind, a, b), bits.at);
        } catch (RunOut end) {
            return new Outcome(NONE, text.length());
        }
    }

    private int value(Bits bits, int kind, int a, int b) {
        return switch (kind) {
            case 0 -> plain(bits, a);
            case 1 -> thrifty(bits, a);
            case 2 -> coin(bits, a, b);
            case 3 -> Integer.bitCount(bits.next(a));
            case 4 -> zerosBeforeOne(bits, a);
            case 5 -> order(bits, a);
            case 6 -> choice(bits, a, b);
            default -> share(bits);
        };
    }

    private static int plain(Bits bits, int a) {
        int k = 0;
        while (Math.pow(2, k) < a) {
            k++;
        }
        int made = bits.next(k);
        while (made >= a) {
            made = bits.next(k);
        }
        return made;
    }

    private static int thrifty(Bits bits, int a) {
        int one = 1;
        int two = 0;
        while (true) {
            while (one < a) {
                one = one * 2;
                two = two * 2 + bits.next();
            }
            if (two < a) {
                return two;
            }
            one -= a;
            two -= a;
        }
    }

    private static int coin(Bits bits, int a, int b) {
        int held = a;
        while (held != 0 && held != b) {
            int bit = bits.next();
            int d = held * 2 / b;
            held = held * 2 % b;
            if (bit < d) {
                return 1;
            }
            if (bit > d) {
                return 0;
            }
        }
        return held == 0 ? 0 : 1;
    }

    private static int zerosBeforeOne(Bits bits, int a) {
        int zeros = 0;
        while (zeros < a && bits.next() == 0) {
            zeros++;
        }
        return zeros;
    }

    private static int order(Bits bits, int a) {
        List<Integer> row = new ArrayList<>();
        for (int i = 0; i < a; i++) {
            row.add(i);
        }
        List<List<Integer>> orders = new ArrayList<>();
        listOrders(new ArrayList<>(), row, orders);
        for (int i = a - 1; i >= 1; i--) {
            java.util.Collections.swap(row, i, plain(bits, i + 1));
        }
        return orders.indexOf(row);
    }

    private static void listOrders(List<Integer> begun, List<Integer> rest, List<List<Integer>> orders) {
        if (rest.isEmpty()) {
            orders.add(begun);
        }
        for (Integer next : rest) {
            List<Integer> longer = new ArrayList<>(begun);
            longer.add(next);
            List<Integer> fewer = new ArrayList<>(rest);
            fewer.remove(next);
            listOrders(longer, fewer, orders);
        }
    }

    private static int choice(Bits bits, int a, int b) {
        List<Integer> taken = new ArrayList<>();
        for (int i = 0; i < a; i++) {
            if (coin(bits, b - taken.size(), a - i) == 1) {
                taken.add(i);
            }
        }
        return taken.stream().mapToInt(i -> 1 << i).sum();
    }

    private int share(Bits bits) {
        List<Integer> owners = new ArrayList<>();
        for (int i = 0; i < 8; i++) {
            for (int n = 0; n < weights[i]; n++) {
                owners.add(i);
            }
        }
        return owners.get(plain(bits, owners.size()));
    }
}
