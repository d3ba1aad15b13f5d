/** Promises 16 to 18: known, loss, span. */
public final class SpansTest {
    public static void main(String[] args) {
        known();
        loss();
        withoutLoss();
        withLoss();
        canNotAllBe();
        canNotBeIsFree();
        Check.end();
    }

    private static void spans(LastScale x, int... wants) {
        for (int sack = 0; sack * 2 < wants.length; sack++) {
            Check.due("span(" + sack + ", 0)", x.span(sack, 0), wants[sack * 2]);
            Check.due("span(" + sack + ", 1)", x.span(sack, 1), wants[sack * 2 + 1]);
        }
    }

    private static void known() {
        LastScale x = Check.scale(4);
        Check.due("known(0, 0, 999)", x.known(0, 0, 999), 1);
        Check.due("known(1, 0, 0)", x.known(1, 0, 0), 1);
        Check.due("known(2, 999, 999)", x.known(2, 999, 999), 1);
        Check.due("known(3, 5, 6)", x.known(3, 5, 6), 1);
        spans(x, 0, 999, 0, 0, 999, 999, 5, 6);
        Check.due("told(43)", x.told(43), 5);
        Check.due("told(53)", x.told(53), 6);
        Check.due("known(4, 0, 1)", x.known(4, 0, 1), Check.UNKNOWN);
        Check.due("known(-1, 0, 1)", x.known(-1, 0, 1), Check.UNKNOWN);
        Check.due("known(9, 5, 1)", x.known(9, 5, 1), Check.UNKNOWN);
        Check.due("known(0, -1, 1)", x.known(0, -1, 1), Check.OUTSIDE);
        Check.due("known(0, 2, 1)", x.known(0, 2, 1), Check.OUTSIDE);
        Check.due("known(0, 2, 1000)", x.known(0, 2, 1000), Check.OUTSIDE);
        Check.due("known(0, 1000, 1000)", x.known(0, 1000, 1000), Check.OUTSIDE);
        Check.due("known(0, MIN, MAX)", x.known(0, Integer.MIN_VALUE, Integer.MAX_VALUE), Check.OUTSIDE);
        spans(x, 0, 999, 0, 0, 999, 999, 5, 6);
        Check.due("a wider one again", x.known(1, 3, 300), 1);
        spans(x, 0, 999, 3, 300);
    }

    private static void loss() {
        LastScale x = new LastScale();
        Check.due("loss(20)", x.loss(20), 0);
        Check.due("loss(0)", x.loss(0), 20);
        Check.due("loss(7)", x.loss(7), 0);
        Check.due("loss(21)", x.loss(21), Check.OUTSIDE);
        Check.due("loss(-1)", x.loss(-1), Check.OUTSIDE);
        Check.due("loss(MAX)", x.loss(Integer.MAX_VALUE), Check.OUTSIDE);
        Check.due("told(3)", x.told(3), 7);
    }

    private static void withoutLoss() {
        spans(Check.scale(3, "a+b+c"), 0, 997, 1, 998, 2, 999);
        spans(Check.scale(3, "a-b-c"), 2, 999, 1, 998, 0, 997);
        LastScale x = Check.scale(3, "a=b=c");
        x.known(0, 10, 500);
        x.known(2, 5, 400);
        spans(x, 10, 400, 10, 400, 10, 400);
        x = Check.scale(6, "f+e+d+c+b+a");
        x.known(5, 100, 200);
        x.known(0, 100, 210);
        spans(x, 105, 210, 104, 209, 103, 208, 102, 207, 101, 206, 100, 200);
        // The same said the other way round, so that news runs against the book.
        x = Check.scale(6, "a-b", "b-c", "c-d", "d-e", "e-f");
        x.known(5, 100, 200);
        x.known(0, 100, 210);
        spans(x, 105, 210, 104, 209, 103, 208, 102, 207, 101, 206, 100, 200);
    }

    private static void withLoss() {
        // b was heavier than a: b, whatever it lost, began no lighter than a was then.
        LastScale x = Check.scale(2, "a+b");
        x.loss(7);
        x.known(0, 100, 100);
        spans(x, 100, 100, 94, 999);
        x = Check.scale(2, "a-b");
        x.loss(7);
        x.known(0, 100, 100);
        spans(x, 100, 100, 0, 106);
        x = Check.scale(2, "a=b");
        x.loss(7);
        x.known(0, 100, 100);
        spans(x, 100, 100, 93, 107);
        // The lifts till then count, not later ones, and those of the other sack.
        x = Check.scale(2, "a", "a", "a+b", "a", "b");
        x.loss(7);
        x.known(0, 100, 100);
        spans(x, 100, 100, 80, 999);
        x = Check.scale(2, "a", "a", "b=a");
        x.loss(5);
        x.known(0, 100, 100);
        spans(x, 100, 100, 85, 105);
        // Lifts of a saying that was struck count on.
        x = Check.scale(2, "a+b");
        x.strike();
        Check.write(x, "a=b");
        x.loss(10);
        x.known(0, 100, 100);
        spans(x, 100, 100, 80, 120);
        x.loss(0);
        spans(x, 100, 100, 100, 100);
        x.strike();
        spans(x, 100, 100, 0, 999);
    }

    private static void canNotAllBe() {
        LastScale x = Check.scale(3, "a+b");
        x.known(0, 500, 600);
        x.known(1, 0, 500);
        spans(x, Check.NONE, Check.NONE, Check.NONE, Check.NONE, Check.NONE, Check.NONE);
        x.known(1, 0, 501);
        spans(x, 500, 500, 501, 501, 0, 999);
        // A ring, with nothing known.
        x = Check.scale(6, "a+b+c+d+e+f+a");
        spans(x, Check.NONE, Check.NONE, Check.NONE, Check.NONE);
        x.loss(1);
        spans(x, 0, 999, 0, 999);
        x = Check.scale(2, "a+b=a");
        spans(x, Check.NONE, Check.NONE);
        Check.due("span(2, 0)", x.span(2, 0), Check.UNKNOWN);
        Check.due("span(-1, 0)", x.span(-1, 0), Check.UNKNOWN);
        Check.due("span(-1, 3)", x.span(-1, 3), Check.UNKNOWN);
        Check.due("span(0, 2)", x.span(0, 2), Check.OUTSIDE);
        Check.due("span(0, -1)", x.span(0, -1), Check.OUTSIDE);
    }

    /** What can not be as if weights did not change can be when lifts lose much. */
    private static void canNotBeIsFree() {
        LastScale x = Check.scale(2, "a+b+a");
        Check.due("open(2)", x.open(2), 0);
        spans(x, Check.NONE, Check.NONE);
        x.loss(20);
        x.known(0, 100, 100);
        spans(x, 100, 100, 81, 119);
    }
}
