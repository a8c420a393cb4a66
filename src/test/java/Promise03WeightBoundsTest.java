/** Promise 3: 'A weight; NONE when there is none such.' */
public final class Promise03WeightBoundsTest {
    private static final Check CHECK = new Check();

    public static void main(String[] args) {
        answersThoseThatAre();
        answersNoneBeyond();
        CHECK.end();
    }

    private static void answersThoseThatAre() {
        for (int i = 0; i <= 7; i++) {
            int at = i;
            int want = Known.MIXED[i];
            new Known(CHECK, Known.MIXED, "101", 3).leaves("weight(" + i + ")", want, x -> x.weight(at));
            new Known(CHECK, Known.MAKE_0, "", 0).leaves("weight(" + i + ") of 0", 0, x -> x.weight(at));
            new Known(CHECK, Known.MAKE_120, "", 0).leaves("weight(" + i + ") of 15", 15, x -> x.weight(at));
        }
    }

    private static void answersNoneBeyond() {
        for (int i : new int[] {-1, 8, -8, 9, 256, Known.LOW, Known.HIGH, Known.LOW + 7, Known.HIGH - 7}) {
            Known.leavesEach(CHECK, "weight(" + i + ")", TapeCounter.NONE, x -> x.weight(i));
        }
    }
}
