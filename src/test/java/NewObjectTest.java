/** Promise 1: a new object. */
public final class NewObjectTest {
    public static void main(String[] args) {
        LastScale x = new LastScale();
        Check.due("told(0)", x.told(0), 0);
        Check.due("told(1)", x.told(1), 6);
        Check.due("told(2)", x.told(2), 0);
        Check.due("told(3)", x.told(3), 0);
        for (int i = 0; i < 6; i++) {
            Check.due("toll " + i, x.told(10 + i), 10);
            Check.due("weight " + i, x.told(20 + i), 50);
            Check.due("lifts " + i, x.told(30 + i), 0);
            Check.due("least " + i, x.told(40 + i), 0);
            Check.due("greatest " + i, x.told(50 + i), 999);
            Check.due("span least " + i, x.span(i, 0), 0);
            Check.due("span greatest " + i, x.span(i, 1), 999);
        }
        Check.due("open(0)", x.open(0), 15);
        Check.due("open(1)", x.open(1), 6);
        Check.due("open(2)", x.open(2), 1);
        Check.due("orders()", x.orders(), 720);
        Check.due("saying(0, 0)", x.saying(0, 0), Check.UNKNOWN);
        Check.due("restore(0)", x.restore(0), Check.STATE);
        Check.due("restore(1)", x.restore(1), Check.STATE);
        Check.due("strike()", x.strike(), Check.NO);
        objectsShareNothing();
        Check.end();
    }

    private static void objectsShareNothing() {
        LastScale one = Check.scale(6, "a+b");
        one.toll(0, 1);
        one.weight(0, 1);
        one.known(0, 1, 1);
        one.image(0);
        LastScale other = new LastScale();
        Check.due("a second object", Check.seen(other), Check.seen(new LastScale()));
        Check.due("restore(0) of another", other.restore(0), Check.STATE);
        Check.due("told(2) of the first", one.told(2), 1);
    }
}
