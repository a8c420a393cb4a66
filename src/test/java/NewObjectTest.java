/** Promise 1: a new object has an empty tape, and all weights are 1. */
public final class NewObjectTest {
    public static void main(String[] args) {
        Check check = new Check();
        looksNew(check, new TapeCounter());
        doesNotShareStateWithAnother(check);
        check.end();
    }

    private static void looksNew(Check check, TapeCounter x) {
        check.due("left()", x.left(), 0);
        check.due("spent()", x.spent(), 0);
        for (int i = 0; i < 8; i++) {
            check.due("weight(" + i + ")", x.weight(i), 1);
        }
        check.due("isOne(7, 0, 0)", x.isOne(7, 0, 0), true);
        check.due("draw(3, 1, 0)", x.draw(3, 1, 0), TapeCounter.NONE);
    }

    private static void doesNotShareStateWithAnother(Check check) {
        TapeCounter used = new TapeCounter();
        used.weigh(3, 9);
        used.feed(5, 7);
        used.draw(3, 2, 0);
        looksNew(check, new TapeCounter());
        check.due("the used one's weight(3)", used.weight(3), 9);
        check.due("the used one's left()", used.left(), 5);
        check.due("the used one's spent()", used.spent(), 2);
    }
}
