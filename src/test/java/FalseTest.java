/** Promise 19: lies. */
public final class FalseTest {
    public static void main(String[] args) {
        lies(new LastScale(), 0, 0, 0);
        lies(Check.scale(6, "a+b-c=d"), 0, 0, 0);
        lies(Check.scale(2, "a+b", "a-b"), 1, 1, 0);
        lies(Check.scale(2, "a+b+a+b"), 1, 2, 2);
        lies(Check.scale(2, "a+b", "a=b", "a-b"), 2, 3, 0);
        lies(Check.scale(3, "a+b+c+a"), 1, 1, 0);
        // The second saying stands in both rings.
        lies(Check.scale(4, "a+b+c+a", "c+d+b"), 1, 2, 2);
        lies(Check.scale(3, "a+b", "a+b", "b+a", "b+a"), 2, 3, 0);
        lies(Check.scale(4, "a+b", "b+a", "c=d", "c+d", "d=c"), 2, 9, 8);
        lies(Check.scale(3, "a+b", "a+b", "a=c", "c-b", "c=a", "b+a"), 2, 3, 0);
        lies(Check.scale(3, "a+b", "a+b", "a=c", "a+b", "c-b", "b+a"), 2, 36, 32);
        // Two rings against each other: one of each pair goes, but not all of one ring.
        lies(Check.scale(6, "a+b+c+d+e+f+a", "a-b-c-d-e-f-a"), 6, 126, 0);
        lies(Check.scale(2, "a+b-a+b-a+b-a+b-a+b-a+b=a"), 1, 2048, 2048);
        struck();
        outside();
        Check.end();
    }

    private static void lies(LastScale x, int fewest, int first, int inEach) {
        Check.due("lies(0)", x.lies(0), fewest);
        Check.due("lies(1)", x.lies(1), first);
        Check.due("lies(2)", x.lies(2), inEach);
        Check.due("open(2) with lies(0)", x.open(2), fewest == 0 ? 1 : 0);
    }

    private static void struck() {
        LastScale x = Check.scale(2, "a+b", "a-b");
        x.strike();
        lies(x, 0, 0, 0);
        x.loss(20);
        Check.write(x, "a-b");
        lies(x, 1, 1, 0);
    }

    private static void outside() {
        LastScale x = Check.scale(2, "a+b", "a-b");
        Check.due("lies(3)", x.lies(3), Check.OUTSIDE);
        Check.due("lies(-1)", x.lies(-1), Check.OUTSIDE);
        Check.due("lies(MIN)", x.lies(Integer.MIN_VALUE), Check.OUTSIDE);
    }
}
