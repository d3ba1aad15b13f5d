/** Promises 20 to 22: weight, leaves, lineBy. */
public final class WeighedTest {
    public static void main(String[] args) {
        weight();
        leaves();
        leavesOutside();
        lineBy();
        bookAside();
        Check.end();
    }

    private static LastScale weighed(int... weights) {
        LastScale x = Check.scale(weights.length);
        for (int sack = 0; sack < weights.length; sack++) {
            x.weight(sack, weights[sack]);
        }
        return x;
    }

    private static void weight() {
        LastScale x = Check.scale(4);
        Check.due("weight(0, 0)", x.weight(0, 0), 50);
        Check.due("weight(0, 99)", x.weight(0, 99), 0);
        Check.due("weight(3, 7)", x.weight(3, 7), 50);
        Check.due("told(20)", x.told(20), 99);
        Check.due("told(23)", x.told(23), 7);
        Check.due("weight(4, 1)", x.weight(4, 1), Check.UNKNOWN);
        Check.due("weight(-1, 1)", x.weight(-1, 1), Check.UNKNOWN);
        Check.due("weight(4, 100)", x.weight(4, 100), Check.UNKNOWN);
        Check.due("weight(0, 100)", x.weight(0, 100), Check.OUTSIDE);
        Check.due("weight(0, -1)", x.weight(0, -1), Check.OUTSIDE);
        Check.due("weight(0, 1)", x.weight(0, 1), 99);
    }

    private static void leaves() {
        LastScale x = weighed(1, 2, 3, 4);
        Check.due("leaves(123)", x.leaves(123), 0);
        Check.due("leaves(3210)", x.leaves(3210), 0);
        Check.due("leaves(132)", x.leaves(132), 2);
        Check.due("leaves(1032)", x.leaves(1032), 3);
        Check.due("leaves(213)", x.leaves(213), 3);
        x = weighed(1, 1, 1);
        Check.due("alike ones leave none", x.leaves(201), 0);
        x = weighed(1, 1, 2, 2);
        Check.due("alike, then heavier", x.leaves(123), 0);
        Check.due("heavier, alike, lighter", x.leaves(231), 1);
        x = weighed(5, 9, 9, 5, 0);
        // a < b = c > d: a and c follow, b and d too, a and d do not.
        Check.due("up, alike, down, down", x.leaves(1234), 2);
        x = weighed(1, 2);
        Check.due("two", x.leaves(1), 0);
        Check.due("two, turned", x.leaves(10), 0);
    }

    private static void leavesOutside() {
        LastScale x = weighed(1, 2, 3, 4);
        int[] wrong = {-1, -123, 0, 1, 12, 122, 124, 1233, 3333, 43210, 10123, 1234, 4321, 13210,
            102, 3013, 1213, 1201,
            Integer.MAX_VALUE, Integer.MIN_VALUE};
        for (int order : wrong) {
            Check.due("leaves(" + order + ")", x.leaves(order), Check.OUTSIDE);
        }
        x.sacks(2);
        Check.due("leaves(0)", x.leaves(0), Check.OUTSIDE);
        Check.due("leaves(11)", x.leaves(11), Check.OUTSIDE);
        Check.due("leaves(101)", x.leaves(101), Check.OUTSIDE);
        Check.due("leaves(1)", x.leaves(1), 0);
        x.sacks(6);
        Check.due("leaves(12345)", x.leaves(12345) >= 0 ? 1 : 0, 1);
        Check.due("leaves(123456)", x.leaves(123456), Check.OUTSIDE);
        Check.due("leaves(9012345)", x.leaves(9012345), Check.OUTSIDE);
    }

    private static void lines(LastScale x, int best, int bestOpen, int worst, int worstOpen) {
        Check.due("lineBy(0, 0)", x.lineBy(0, 0), best);
        Check.due("lineBy(0, 1)", x.lineBy(0, 1), bestOpen);
        Check.due("lineBy(1, 0)", x.lineBy(1, 0), worst);
        Check.due("lineBy(1, 1)", x.lineBy(1, 1), worstOpen);
    }

    private static void lineBy() {
        lines(weighed(1, 2), 1, 0, 1, 0);
        lines(weighed(1, 2, 3), 12, 0, 21, 1);
        lines(weighed(1, 2, 3, 4), 123, 0, 213, 3);
        lines(weighed(4, 3, 2, 1), 123, 0, 213, 3);
        lines(weighed(2, 3, 1), 102, 0, 12, 1);
        lines(weighed(7, 7, 7, 7), 123, 0, 123, 0);
        lines(weighed(9, 3, 9, 1, 5, 3), 24153, 0, 12345, 10);
        LastScale x = weighed(1, 2, 3);
        int[] wrong = {-1, 2, Integer.MAX_VALUE, Integer.MIN_VALUE};
        for (int v : wrong) {
            Check.due("lineBy(" + v + ", 0)", x.lineBy(v, 0), Check.OUTSIDE);
            Check.due("lineBy(0, " + v + ")", x.lineBy(0, v), Check.OUTSIDE);
        }
    }

    /** Neither the book nor what is known of weights has a say here, nor the other way round. */
    private static void bookAside() {
        LastScale x = weighed(1, 2, 3, 4);
        Check.write(x, "a-b-c-d+a");
        x.known(0, 500, 500);
        x.loss(20);
        lines(x, 123, 0, 213, 3);
        Check.due("leaves(213)", x.leaves(213), 3);
        Check.due("sayings", x.told(2), 4);
        Check.due("lifts", x.told(31), 1);
    }
}
