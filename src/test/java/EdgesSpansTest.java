/** Promises 16 to 18: a test of its own for each sentence of the document that names an edge. */
public final class EdgesSpansTest {
    public static void main(String[] args) {
        knownOfASackThatThereIsNot();
        knownTheLeastAndTheGreatest();
        knownTooLowTooHigh();
        knownFalling();
        knownAgain();
        lossTheLeastAndTheGreatest();
        lossTooLowTooHigh();
        lossCountsForLiftsBefore();
        spanOfASackThatThereIsNot();
        spanEndTooLowTooHigh();
        spanOfNothingSaid();
        spanKeepsFrom0To999();
        spanHeavierByOneAtLeast();
        spanAlikeWithoutOne();
        spanTakesLossOfTheOtherOne();
        spanCountsLiftsTillThen();
        spanOfManyLifts();
        spanByAllSayingsTogether();
        spanNoneIsOfAllSacks();
        spanNoneGoesLast();
        spanOfARing();
        spanAfterStrikeAndSacks();
        Check.end();
    }

    private static void span(String name, LastScale x, int sack, int least, int greatest) {
        Check.due("the least of " + sack + ", " + name, x.span(sack, 0), least);
        Check.due("the greatest of " + sack + ", " + name, x.span(sack, 1), greatest);
    }

    private static void none(String name, LastScale x) {
        for (int sack = 0; sack < x.told(1); sack++) {
            span(name, x, sack, Check.NONE, Check.NONE);
        }
    }

    /** Two sacks, the first one's weight known to be just that. */
    private static LastScale two(int weight, int loss, String... lines) {
        LastScale x = Check.scale(2, lines);
        x.known(0, weight, weight);
        x.loss(loss);
        return x;
    }

    // Promise 16: UNKNOWN; OUTSIDE: 0 to 999, rising or alike.

    private static void knownOfASackThatThereIsNot() {
        for (int n = 2; n <= 6; n++) {
            LastScale x = Check.scale(n);
            for (int sack : Check.notFrom(0, n - 1)) {
                Check.due("known(" + sack + ", 1, 2) of " + n, x.known(sack, 1, 2), Check.UNKNOWN);
                Check.due("UNKNOWN goes before OUTSIDE", x.known(sack, 2, 1), Check.UNKNOWN);
            }
            for (int sack = 0; sack < n; sack++) {
                span("as it was", x, sack, 0, 999);
                Check.due("known(" + sack + ", 1, 2) of " + n, x.known(sack, 1, 2), 1);
            }
        }
    }

    private static void knownTheLeastAndTheGreatest() {
        int[][] pairs = {{0, 0}, {0, 1}, {0, 999}, {998, 999}, {999, 999}, {500, 500}};
        LastScale x = new LastScale();
        for (int[] pair : pairs) {
            for (int sack = 0; sack < 6; sack++) {
                String call = "known(" + sack + ", " + pair[0] + ", " + pair[1] + ")";
                Check.due(call, x.known(sack, pair[0], pair[1]), 1);
                Check.due("least after " + call, x.told(40 + sack), pair[0]);
                Check.due("greatest after " + call, x.told(50 + sack), pair[1]);
                span(call, x, sack, pair[0], pair[1]);
            }
        }
    }

    private static void knownTooLowTooHigh() {
        for (int v : Check.notFrom(0, 999)) {
            LastScale x = two(7, 0);
            Check.due("known(0, " + v + ", 999)", x.known(0, v, 999), Check.OUTSIDE);
            Check.due("known(0, 0, " + v + ")", x.known(0, 0, v), Check.OUTSIDE);
            Check.due("known(0, " + v + ", " + v + ")", x.known(0, v, v), Check.OUTSIDE);
            span("as it was", x, 0, 7, 7);
        }
    }

    private static void knownFalling() {
        LastScale x = two(7, 0);
        Check.due("known(0, 1, 0)", x.known(0, 1, 0), Check.OUTSIDE);
        Check.due("known(0, 999, 998)", x.known(0, 999, 998), Check.OUTSIDE);
        Check.due("known(0, 999, 0)", x.known(0, 999, 0), Check.OUTSIDE);
        span("as it was", x, 0, 7, 7);
    }

    /** What was known before is not heard any more. */
    private static void knownAgain() {
        LastScale x = two(7, 0);
        x.known(0, 8, 20);
        span("another span", x, 0, 8, 20);
        x.known(0, 0, 999);
        span("the widest span", x, 0, 0, 999);
    }

    // Promise 17: LOSS (0 to 20; 0 at first): which it was. OUTSIDE.

    private static void lossTheLeastAndTheGreatest() {
        LastScale x = new LastScale();
        Check.due("loss(20)", x.loss(20), 0);
        Check.due("told(3)", x.told(3), 20);
        Check.due("loss(0)", x.loss(0), 20);
        Check.due("told(3)", x.told(3), 0);
    }

    private static void lossTooLowTooHigh() {
        for (int v : Check.notFrom(0, 20)) {
            LastScale x = two(100, 5, "a=b");
            Check.due("loss(" + v + ")", x.loss(v), Check.OUTSIDE);
            Check.due("loss as it was", x.told(3), 5);
            span("loss as it was", x, 1, 95, 105);
        }
    }

    private static void lossCountsForLiftsBefore() {
        LastScale x = two(100, 0, "a=b");
        for (int loss = 0; loss <= 20; loss++) {
            x.loss(loss);
            span("loss " + loss, x, 1, 100 - loss, 100 + loss);
        }
        Check.due("follows as if weights do not change", x.follows(1, 0), 0);
    }

    // Promise 18: the least (end = 0), the greatest (1); NONE: they can not all be.
    // UNKNOWN; OUTSIDE.

    private static void spanOfASackThatThereIsNot() {
        for (int n = 2; n <= 6; n++) {
            LastScale x = Check.scale(n);
            for (int sack : Check.notFrom(0, n - 1)) {
                Check.due("span(" + sack + ", 0) of " + n, x.span(sack, 0), Check.UNKNOWN);
                Check.due("UNKNOWN goes before OUTSIDE", x.span(sack, 2), Check.UNKNOWN);
            }
        }
    }

    private static void spanEndTooLowTooHigh() {
        for (int end : Check.notFrom(0, 1)) {
            Check.due("span(0, " + end + ")", Check.scale(2).span(0, end), Check.OUTSIDE);
        }
    }

    private static void spanOfNothingSaid() {
        LastScale x = new LastScale();
        for (int sack = 0; sack < 6; sack++) {
            span("nothing said", x, sack, 0, 999);
        }
    }

    /** A row of heavier ones comes to the ends of what weights can be. */
    private static void spanKeepsFrom0To999() {
        LastScale x = Check.scale(6, "a+b+c+d+e+f");
        LastScale y = Check.scale(6, "a-b-c-d-e-f");
        LastScale z = Check.scale(6, "a=b=c=d=e=f");
        for (int sack = 0; sack < 6; sack++) {
            span("rising", x, sack, sack, 994 + sack);
            span("falling", y, sack, 5 - sack, 999 - sack);
            span("alike", z, sack, 0, 999);
        }
        x.loss(20);
        for (int sack = 0; sack < 6; sack++) {
            span("rising, much lost", x, sack, 0, 999);
        }
    }

    private static void spanHeavierByOneAtLeast() {
        span("heavier than 0", two(0, 0, "a+b"), 1, 1, 999);
        span("heavier than 998", two(998, 0, "a+b"), 1, 999, 999);
        none("heavier than 999", two(999, 0, "a+b"));
        span("lighter than 999", two(999, 0, "a-b"), 1, 0, 998);
        span("lighter than 1", two(1, 0, "a-b"), 1, 0, 0);
        none("lighter than 0", two(0, 0, "a-b"));
        span("heavier than 999, 1 lost", two(999, 1, "a+b"), 1, 999, 999);
        span("lighter than 0, 1 lost", two(0, 1, "a-b"), 1, 0, 0);
    }

    private static void spanAlikeWithoutOne() {
        span("alike with 0", two(0, 0, "a=b"), 1, 0, 0);
        span("alike with 999", two(999, 0, "a=b"), 1, 999, 999);
        span("alike with 0, much lost", two(0, 20, "a=b"), 1, 0, 20);
        span("alike with 999, much lost", two(999, 20, "a=b"), 1, 979, 999);
        LastScale x = two(500, 0, "a=b");
        x.known(1, 500, 999);
        span("alike, just so", x, 1, 500, 500);
        x.known(1, 501, 999);
        none("alike, but one heavier", x);
        x.loss(1);
        span("alike, one heavier, 1 lost", x, 1, 501, 501);
    }

    /** No less than the other one's less LOSS by that one's LIFTS, not by its own. */
    private static void spanTakesLossOfTheOtherOne() {
        span("a was lifted thrice", two(500, 10, "a", "a", "a+b"), 1, 471, 999);
        span("b was lifted thrice", two(500, 10, "b", "b", "a+b"), 1, 491, 999);
        span("a was lifted thrice", two(500, 10, "a", "a", "a-b"), 1, 0, 509);
        span("b was lifted thrice", two(500, 10, "b", "b", "a-b"), 1, 0, 529);
        span("a was lifted thrice", two(500, 10, "a", "a", "a=b"), 1, 470, 510);
        span("b was lifted thrice", two(500, 10, "b", "b", "a=b"), 1, 490, 530);
        span("b lay there before", two(500, 10, "a", "a", "b=a"), 1, 470, 510);
    }

    private static void spanCountsLiftsTillThen() {
        span("later lifts are not heard", two(500, 10, "a=b", "a", "b", "a", "b"), 1, 490, 510);
        span("of two alike ones the first tells more", two(500, 10, "a=b", "a=b"), 1, 490, 510);
        span("the later one alone", two(500, 10, "a", "b", "a=b"), 1, 480, 520);
    }

    private static void spanOfManyLifts() {
        LastScale x = new LastScale();
        for (int count = 0; count < 200; count++) {
            x.say('a');
            x.line();
        }
        Check.write(x, "a+b");
        x.loss(20);
        x.known(0, 999, 999);
        span("201 lifts, 20 lost each", x, 1, 0, 999);
        x.loss(4);
        span("201 lifts, 4 lost each", x, 1, 196, 999);
        x.loss(0);
        none("201 lifts, none lost", x);
    }

    private static void spanByAllSayingsTogether() {
        LastScale x = Check.scale(6, "f+e", "e+d", "d+c", "c+b", "b+a");
        x.known(5, 100, 200);
        x.known(0, 105, 999);
        for (int sack = 0; sack < 5; sack++) {
            span("by the row from the last", x, sack, 105 - sack, 999 - sack);
        }
        x.known(0, 0, 105);
        for (int sack = 0; sack < 6; sack++) {
            span("just one way", x, sack, 105 - sack, 105 - sack);
        }
        x.known(0, 0, 104);
        none("no way", x);
    }

    private static void spanNoneIsOfAllSacks() {
        LastScale x = Check.scale(6, "a=b");
        x.known(0, 0, 499);
        x.known(1, 500, 999);
        none("a sack that nothing was said of, too", x);
        x.known(1, 499, 999);
        span("alike, just so", x, 0, 499, 499);
        span("nothing was said of it", x, 5, 0, 999);
        for (int sack = 0; sack < 6; sack++) {
            for (int other = 0; other < sack; other++) {
                String line = (char) ('a' + sack) + "=" + (char) ('a' + other);
                LastScale y = Check.scale(6, line);
                y.known(sack, 500, 500);
                y.known(other, 501, 501);
                none("just " + line + " can not be", y);
            }
        }
    }

    private static void spanNoneGoesLast() {
        LastScale x = Check.scale(2, "a+b+a");
        for (int wrong : Check.notFrom(0, 1)) {
            Check.due("span(" + wrong + ", 0)", x.span(wrong, 0), Check.UNKNOWN);
            Check.due("span(0, " + wrong + ")", x.span(0, wrong), Check.OUTSIDE);
        }
        none("a ring", x);
    }

    /** Each time round asks for more, but for what is lost on the way. */
    private static void spanOfARing() {
        for (int n = 2; n <= 6; n++) {
            String ring = "a+b+c+d+e+f".substring(0, 2 * n - 1) + "+a";
            LastScale x = Check.scale(n, ring);
            none(ring, x);
            x.loss(1);
            span(ring + ", 1 lost", x, 0, 0, 999);
            span(ring + ", 1 lost", x, n - 1, 0, 999);
        }
        LastScale x = Check.scale(6, "a=b=c=d=e=f", "a+f");
        none("alike ones and one heavier", x);
        x.loss(1);
        span("alike ones and one heavier, 1 lost", x, 0, 0, 999);
        x = Check.scale(6, "a=b=c=d=e=f=a");
        x.known(3, 5, 5);
        for (int sack = 0; sack < 6; sack++) {
            span("a ring of alike ones", x, sack, 5, 5);
        }
    }

    private static void spanAfterStrikeAndSacks() {
        LastScale x = two(999, 0, "a+b");
        none("heavier than 999", x);
        x.strike();
        span("after strike", x, 1, 0, 999);
        Check.write(x, "a+b");
        x.sacks(2);
        span("after sacks", x, 0, 0, 999);
        span("after sacks", x, 1, 0, 999);
    }
}
