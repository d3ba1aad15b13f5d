/** Promises 19 to 25: a test of its own for each sentence of the document that names an edge. */
public final class EdgesWeighedTest {
    private static final String TWELVE = "a+b+a+b+a+b+a+b+a+b+a+b+a";

    public static void main(String[] args) {
        liesTooLowTooHigh();
        liesWhenItCanBe();
        liesTheFirstAndTheTwelfth();
        liesAsManyAsCanBe();
        liesTheLeastAsBits();
        liesAfterStrikeAndSacks();
        weightOfASackThatThereIsNot();
        weightTooLowTooHigh();
        weightTheLeastAndTheGreatest();
        leavesOfEachNumber();
        leavesBelow0AndFarAbove();
        leavesNoneAndAll();
        leavesTheBookAside();
        lineByTooLowTooHigh();
        lineByTheFirstOfSeveral();
        lineByOfTwo();
        imageTooLowTooHigh();
        imageOfAnEmptyAndAFullBook();
        imageAgain();
        restoreTooLowTooHigh();
        restoreOfWhatWasNotKept();
        restoreMoreAndFewerSacks();
        restoreLeavesThePad();
        restoreLeavesImages();
        toldOfEachNumber();
        toldFarOutside();
        toldOfAnEmptyAndAFullObject();
        Check.end();
    }

    private static void lies(String name, LastScale x, int fewest, int first, int inEach) {
        Check.due("lies(0), " + name, x.lies(0), fewest);
        Check.due("lies(1), " + name, x.lies(1), first);
        Check.due("lies(2), " + name, x.lies(2), inEach);
    }

    // Promise 19: how many (what = 0), the first set as bits (1), those in each (2); 0: it
    // can be. OUTSIDE.

    private static void liesTooLowTooHigh() {
        LastScale x = new LastScale();
        LastScale y = Check.scale(2, "a+b+a");
        for (int what : Check.notFrom(0, 2)) {
            Check.due("lies(" + what + "), it can be", x.lies(what), Check.OUTSIDE);
            Check.due("lies(" + what + "), it can not be", y.lies(what), Check.OUTSIDE);
        }
    }

    private static void liesWhenItCanBe() {
        lies("nothing said", new LastScale(), 0, 0, 0);
        lies("one said", Check.scale(2, "a+b"), 0, 0, 0);
        lies("twelve said", Check.scale(2, "a+b-a+b-a+b-a+b-a+b-a+b-a"), 0, 0, 0);
    }

    private static void liesTheFirstAndTheTwelfth() {
        LastScale x = Check.scale(2, "b+a");
        for (int i = 1; i < 12; i++) {
            Check.write(x, "a+b");
        }
        lies("the first is false", x, 1, 1, 1);
        x = Check.scale(2);
        for (int i = 0; i < 11; i++) {
            Check.write(x, "a+b");
        }
        lies("eleven that can be", x, 0, 0, 0);
        Check.write(x, "a=b");
        lies("the twelfth is false", x, 1, 2048, 2048);
    }

    private static void liesAsManyAsCanBe() {
        lies("six against six", Check.scale(2, TWELVE), 6, 1365, 0);
        LastScale x = Check.scale(2);
        for (int i = 0; i < 4; i++) {
            Check.write(x, "a+b");
            Check.write(x, "a-b");
            Check.write(x, "a=b");
        }
        lies("four against four against four", x, 8, 1755, 0);
    }

    private static void liesTheLeastAsBits() {
        lies("any of six", Check.scale(6, "a+b+c+d+e+f+a"), 1, 1, 0);
        lies("one of two pairs", Check.scale(4, "a+b+a", "c+d+c"), 2, 5, 0);
        lies("the one in both rings", Check.scale(4, "a+b", "a+c+d+a", "b+d"), 1, 8, 8);
        lies("one of a pair, and one in each", Check.scale(4, "a+b+a", "c+d", "d+c", "c+d"), 2, 9, 8);
    }

    private static void liesAfterStrikeAndSacks() {
        LastScale x = Check.scale(2, "a+b+a");
        lies("two", x, 1, 1, 0);
        x.strike();
        lies("one is struck", x, 0, 0, 0);
        Check.write(x, "a=b");
        lies("another one", x, 1, 1, 0);
        x.sacks(2);
        lies("after sacks", x, 0, 0, 0);
    }

    // Promise 20: WEIGHTS (0 to 99; 50 at first). UNKNOWN; OUTSIDE.

    private static void weightOfASackThatThereIsNot() {
        for (int n = 2; n <= 6; n++) {
            LastScale x = Check.scale(n);
            for (int sack : Check.notFrom(0, n - 1)) {
                Check.due("weight(" + sack + ", 1) of " + n, x.weight(sack, 1), Check.UNKNOWN);
                Check.due("UNKNOWN goes before OUTSIDE", x.weight(sack, 100), Check.UNKNOWN);
            }
            x.sacks(6);
            for (int sack = 0; sack < 6; sack++) {
                Check.due("weight as it was", x.told(20 + sack), 50);
            }
        }
    }

    private static void weightTooLowTooHigh() {
        for (int v : Check.notFrom(0, 99)) {
            LastScale x = new LastScale();
            Check.due("weight(0, " + v + ")", x.weight(0, v), Check.OUTSIDE);
            Check.due("weight(5, " + v + ")", x.weight(5, v), Check.OUTSIDE);
            Check.due("weight of 0 as it was", x.told(20), 50);
            Check.due("weight of 5 as it was", x.told(25), 50);
        }
    }

    private static void weightTheLeastAndTheGreatest() {
        LastScale x = new LastScale();
        for (int sack = 0; sack < 6; sack++) {
            Check.due("weight(" + sack + ", 0)", x.weight(sack, 0), 50);
            Check.due("weight(" + sack + ", 99)", x.weight(sack, 99), 0);
            Check.due("told weight", x.told(20 + sack), 99);
        }
    }

    // Promise 21: SACKS as digits, the first one's first. OUTSIDE: below 0, not each of
    // them once.

    private static boolean eachOnce(int order, int sacks) {
        int seen = 0;
        int rest = order;
        for (int place = 0; place < sacks; place++) {
            seen |= 1 << rest % 10;
            rest /= 10;
        }
        return rest == 0 && seen == (1 << sacks) - 1;
    }

    /** All weights are alike, so that every order leaves no PAIR OPEN. */
    private static void leavesOfEachNumber() {
        for (int n = 2; n <= 6; n++) {
            LastScale x = Check.scale(n);
            int last = (int) Math.pow(10, n) + 200;
            for (int order = 0; order < last; order++) {
                if (order % 400 == 0) {
                    x = Check.scale(n);
                }
                Check.due("leaves(" + order + ") of " + n, x.leaves(order), eachOnce(order, n) ? 0 : Check.OUTSIDE);
            }
        }
    }

    private static void leavesBelow0AndFarAbove() {
        for (int n = 2; n <= 6; n++) {
            LastScale x = Check.scale(n);
            int last = 543210 % (int) Math.pow(10, n);
            for (int order : Check.notFrom(0, last)) {
                Check.due("leaves(" + order + ") of " + n, x.leaves(order), Check.OUTSIDE);
            }
            Check.due("leaves(-" + last + ")", x.leaves(-last), Check.OUTSIDE);
            Check.due("leaves(-1)", x.leaves(-1), Check.OUTSIDE);
            Check.due("leaves(" + last + ")", x.leaves(last), 0);
        }
    }

    private static LastScale weighed(int... weights) {
        LastScale x = Check.scale(weights.length);
        for (int sack = 0; sack < weights.length; sack++) {
            x.weight(sack, weights[sack]);
        }
        return x;
    }

    private static void leavesNoneAndAll() {
        LastScale x = weighed(0, 1, 2, 97, 98, 99);
        Check.due("rising", x.leaves(12345), 0);
        Check.due("falling", x.leaves(543210), 0);
        Check.due("up and down", x.leaves(304152), 10);
        Check.due("down and up", x.leaves(251403), 10);
        Check.due("turned once, at the end", x.leaves(12354), 4);
        Check.due("turned once, at the beginning", x.leaves(102345), 4);
        Check.due("the first one's first", weighed(1, 3, 2).leaves(21), 0);
        Check.due("the first one's first", weighed(1, 3, 2).leaves(12), 1);
    }

    /** THE BOOK aside, and what is known of weights, and LOSS. */
    private static void leavesTheBookAside() {
        LastScale x = weighed(1, 2, 3);
        Check.write(x, "a-b+a=c");
        x.loss(20);
        x.known(0, 999, 999);
        Check.due("leaves(12)", x.leaves(12), 0);
        Check.due("leaves(21)", x.leaves(21), 1);
        Check.due("lineBy(1, 1)", x.lineBy(1, 1), 1);
        Check.due("sayings", x.told(2), 3);
        Check.due("lifts", x.told(30), 2);
    }

    // Promise 22: BEST LINE (which = 0), WORST LINE (1): the order as such a number (what =
    // 0), PAIRS OPEN (1); of several the first by numbers. OUTSIDE.

    private static void lineByTooLowTooHigh() {
        for (int wrong : Check.notFrom(0, 1)) {
            LastScale x = Check.scale(2);
            Check.due("lineBy(" + wrong + ", 0)", x.lineBy(wrong, 0), Check.OUTSIDE);
            Check.due("lineBy(" + wrong + ", 1)", x.lineBy(wrong, 1), Check.OUTSIDE);
            Check.due("lineBy(0, " + wrong + ")", x.lineBy(0, wrong), Check.OUTSIDE);
            Check.due("lineBy(1, " + wrong + ")", x.lineBy(1, wrong), Check.OUTSIDE);
            Check.due("lineBy of two such", x.lineBy(wrong, wrong), Check.OUTSIDE);
        }
    }

    private static void lines(String name, LastScale x, int best, int fewest, int worst, int most) {
        Check.due("the best line, " + name, x.lineBy(0, 0), best);
        Check.due("pairs open by it, " + name, x.lineBy(0, 1), fewest);
        Check.due("the worst line, " + name, x.lineBy(1, 0), worst);
        Check.due("pairs open by it, " + name, x.lineBy(1, 1), most);
    }

    private static void lineByTheFirstOfSeveral() {
        int first = 0;
        for (int n = 2; n <= 6; n++) {
            first = first * 10 + n - 1;
            lines("all alike of " + n, Check.scale(n), first, 0, first, 0);
        }
        lines("rising", weighed(0, 1, 2, 3, 4, 99), 12345, 0, 21435, 10);
        lines("falling", weighed(99, 4, 3, 2, 1, 0), 12345, 0, 21435, 10);
        lines("from the least to the greatest", weighed(2, 3, 1), 102, 0, 12, 1);
        lines("one of two ways", weighed(1, 3, 2), 21, 0, 12, 1);
    }

    private static void lineByOfTwo() {
        lines("two, rising", weighed(0, 99), 1, 0, 1, 0);
        lines("two, falling", weighed(99, 0), 1, 0, 1, 0);
    }

    // Promise 23: All but the PAD is kept in an IMAGE (0, 1): 1. OUTSIDE.

    private static void imageTooLowTooHigh() {
        for (int n : Check.notFrom(0, 1)) {
            LastScale x = new LastScale();
            Check.due("image(" + n + ")", x.image(n), Check.OUTSIDE);
            Check.due("restore(0) after image(" + n + ")", x.restore(0), Check.STATE);
            Check.due("restore(1) after image(" + n + ")", x.restore(1), Check.STATE);
        }
    }

    private static void imageOfAnEmptyAndAFullBook() {
        LastScale x = new LastScale();
        String empty = Check.seen(x);
        Check.due("image(0) of a new object", x.image(0), 1);
        Check.write(x, TWELVE);
        String full = Check.seen(x);
        Check.due("image(1) of a full book", x.image(1), 1);
        x.restore(0);
        Check.due("empty again", Check.seen(x), empty);
        x.sacks(2);
        Check.write(x, "b-a-b-a-b-a-b-a-b-a-b-a-b");
        x.restore(1);
        Check.due("full again", Check.seen(x), full);
        Check.say(x, "a+b");
        Check.due("no room in it", x.line(), Check.FULL);
    }

    private static void imageAgain() {
        LastScale x = Check.scale(2, "a+b");
        x.image(1);
        x.strike();
        Check.due("image(1) again", x.image(1), 1);
        Check.write(x, TWELVE);
        x.restore(1);
        Check.due("the later one", x.told(2), 0);
        Check.due("lifts of the later one", x.told(30), 1);
    }

    // Promise 24: It is as it was when it was kept: 1. OUTSIDE; STATE: it was not.

    private static void restoreTooLowTooHigh() {
        for (int n : Check.notFrom(0, 1)) {
            LastScale x = Check.scale(3, "a+b");
            Check.due("OUTSIDE goes before STATE: restore(" + n + ")", x.restore(n), Check.OUTSIDE);
            x.image(0);
            x.image(1);
            x.strike();
            Check.due("restore(" + n + ")", x.restore(n), Check.OUTSIDE);
            Check.due("nothing changed", x.told(2), 0);
        }
    }

    private static void restoreOfWhatWasNotKept() {
        LastScale x = Check.scale(3, "a+b");
        Check.due("restore(0)", x.restore(0), Check.STATE);
        Check.due("restore(1)", x.restore(1), Check.STATE);
        x.image(1);
        Check.due("restore(0), the other one was", x.restore(0), Check.STATE);
        Check.due("restore(1)", x.restore(1), 1);
        x.sacks(2);
        Check.due("restore(0) still", x.restore(0), Check.STATE);
        Check.due("nothing changed", x.told(1), 2);
    }

    private static void restoreMoreAndFewerSacks() {
        for (int from = 2; from <= 6; from++) {
            for (int to = 2; to <= 6; to++) {
                LastScale x = Check.scale(from, "a+b-a");
                x.known(from - 1, 3, 4);
                x.weight(from - 1, 5);
                x.loss(6);
                x.toll(5, 7);
                String before = Check.seen(x);
                x.image(0);
                x.sacks(to);
                x.known(to - 1, 30, 40);
                x.weight(to - 1, 55);
                x.loss(16);
                x.toll(5, 77);
                Check.due("restore(0)", x.restore(0), 1);
                Check.due("all, from " + from + " to " + to, Check.seen(x), before);
                Check.due("one more sack", x.weight(from, 1), Check.UNKNOWN);
            }
        }
    }

    private static void restoreLeavesThePad() {
        LastScale x = new LastScale();
        Check.say(x, "a+f");
        x.image(0);
        x.sacks(2);
        x.image(1);
        Check.say(x, "-b");
        x.restore(0);
        Check.due("signs", x.told(0), 5);
        Check.due("fault by six", x.fault(), Check.NONE);
        x.restore(1);
        Check.due("signs", x.told(0), 5);
        Check.due("fault by two", x.fault(), 2);
        x.wipe();
        x.restore(0);
        Check.due("signs that went stay away", x.told(0), 0);
    }

    private static void restoreLeavesImages() {
        LastScale x = Check.scale(2, "a+b");
        x.image(0);
        x.sacks(4);
        x.image(1);
        for (int i = 0; i < 3; i++) {
            Check.due("restore(0)", x.restore(0), 1);
            Check.due("sacks of image 0", x.sacks(6), 2);
            Check.due("restore(1)", x.restore(1), 1);
            Check.due("sacks of image 1", x.sacks(6), 4);
        }
    }

    // Promise 25: 0 to 3; 10 to 15, 20 to 25, 30 to 35, 40 to 45, 50 to 55. OUTSIDE (also
    // of SACKS that there are not, from 20 on).

    private static void toldOfEachNumber() {
        for (int n = 2; n <= 6; n++) {
            LastScale x = Check.scale(n);
            int[] first = {10, 50, 0, 0, 999};
            for (int what = -60; what < 200; what++) {
                int want = Check.OUTSIDE;
                if (what >= 0 && what < 4) {
                    want = what == 1 ? n : 0;
                } else if (what >= 10 && what < 60 && what % 10 < (what < 20 ? 6 : n)) {
                    want = first[what / 10 - 1];
                }
                Check.due("told(" + what + ") of " + n, x.told(what), want);
            }
        }
    }

    private static void toldFarOutside() {
        for (int what : Check.notFrom(0, 55)) {
            Check.due("told(" + what + ")", new LastScale().told(what), Check.OUTSIDE);
        }
        for (int what : Check.notFrom(-100, 99)) {
            Check.due("told(" + what + ")", new LastScale().told(what), Check.OUTSIDE);
        }
    }

    private static void toldOfAnEmptyAndAFullObject() {
        LastScale x = Check.scale(6, TWELVE);
        for (int i = 0; i < 45; i++) {
            x.say('~');
        }
        x.loss(20);
        for (int i = 0; i < 6; i++) {
            x.toll(i, 99);
            x.weight(i, 99);
            x.known(i, 999, 999);
        }
        int[] ends = {40, 6, 12, 20};
        for (int what = 0; what < 4; what++) {
            Check.due("told(" + what + ")", x.told(what), ends[what]);
        }
        for (int i = 0; i < 6; i++) {
            Check.due("toll", x.told(10 + i), 99);
            Check.due("weight", x.told(20 + i), 99);
            Check.due("lifts", x.told(30 + i), i == 0 ? 7 : i == 1 ? 6 : 0);
            Check.due("least", x.told(40 + i), 999);
            Check.due("greatest", x.told(50 + i), 999);
        }
    }
}
