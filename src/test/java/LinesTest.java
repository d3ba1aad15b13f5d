/** Promises 2 to 8: sacks, say, wipe, fault, line, strike, saying. */
public final class LinesTest {
    public static void main(String[] args) {
        sacks();
        say();
        wipe();
        fault();
        line();
        lineFull();
        strike();
        saying();
        Check.end();
    }

    private static void sacks() {
        LastScale x = new LastScale();
        Check.due("sacks(2)", x.sacks(2), 6);
        Check.due("sacks(6)", x.sacks(6), 2);
        Check.due("sacks(5)", x.sacks(5), 6);
        int[] wrong = {1, 0, -1, 7, Integer.MIN_VALUE, Integer.MAX_VALUE};
        for (int n : wrong) {
            Check.due("sacks(" + n + ")", x.sacks(n), Check.OUTSIDE);
        }
        Check.due("told(1)", x.told(1), 5);

        x = Check.scale(4, "a+b-c");
        x.known(0, 5, 6);
        x.known(3, 7, 8);
        x.loss(3);
        x.toll(2, 7);
        x.weight(1, 8);
        x.weight(3, 9);
        x.image(1);
        Check.say(x, "a+");
        Check.due("sacks(4)", x.sacks(4), 4);
        Check.due("sayings after sacks", x.told(2), 0);
        for (int i = 0; i < 4; i++) {
            Check.due("lifts after sacks", x.told(30 + i), 0);
            Check.due("least after sacks", x.told(40 + i), 0);
            Check.due("greatest after sacks", x.told(50 + i), 999);
        }
        Check.due("loss stays", x.told(3), 3);
        Check.due("toll stays", x.told(12), 7);
        Check.due("weight stays", x.told(21), 8);
        Check.due("signs stay", x.told(0), 2);
        x.sacks(3);
        x.sacks(6);
        Check.due("weight of a sack that was not there stays", x.told(23), 9);
        Check.due("known of a sack that was not there", x.told(43), 0);
        Check.due("image stays", x.restore(1), 1);
        Check.due("sayings of the image", x.told(2), 2);
    }

    private static void say() {
        LastScale x = new LastScale();
        Check.due("say(33)", x.say(33), 1);
        Check.due("say(126)", x.say(126), 2);
        Check.due("say(97)", x.say('a'), 3);
        int[] wrong = {32, 127, 0, -1, 33 + 256, Integer.MIN_VALUE, Integer.MAX_VALUE};
        for (int sign : wrong) {
            Check.due("say(" + sign + ")", x.say(sign), Check.OUTSIDE);
        }
        for (int i = 4; i <= 40; i++) {
            Check.due("sign " + i, x.say('+'), i);
        }
        Check.due("41st sign", x.say('+'), Check.FULL);
        Check.due("41st sign, outside", x.say(32), Check.OUTSIDE);
        Check.due("told(0)", x.told(0), 40);
    }

    private static void wipe() {
        LastScale x = new LastScale();
        Check.due("wipe() of nothing", x.wipe(), 0);
        Check.say(x, "a+b");
        Check.due("wipe()", x.wipe(), 3);
        Check.due("wipe() again", x.wipe(), 0);
        Check.due("say after wipe", x.say('c'), 1);
        Check.due("fault after wipe", x.fault(), Check.NONE);
        x = new LastScale();
        for (int i = 0; i < 41; i++) {
            x.say('~');
        }
        Check.due("wipe() of a full pad", x.wipe(), 40);
    }

    private static void fault() {
        Check.due("fault of nothing", new LastScale().fault(), 0);
        faultOf(6, "a", Check.NONE);
        faultOf(6, "f", Check.NONE);
        faultOf(6, "g", 0);
        faultOf(6, "`", 0);
        faultOf(6, "A", 0);
        faultOf(6, "+", 0);
        faultOf(6, "0", 0);
        faultOf(6, "~", 0);
        faultOf(6, "a+", 2);
        faultOf(6, "a-", 2);
        faultOf(6, "a=", 2);
        faultOf(6, "ab", 1);
        faultOf(6, "a,", 1);
        faultOf(6, "a+a", 2);
        faultOf(6, "a+b", Check.NONE);
        faultOf(6, "a++", 2);
        faultOf(6, "a+bc", 3);
        faultOf(6, "a+b-", 4);
        faultOf(6, "a+b-b", 4);
        faultOf(6, "a+b-a", Check.NONE);
        faultOf(6, "a+b-a=b", Check.NONE);
        faultOf(6, "a+b-a=a", 6);
        faultOf(6, "a+g-+", 2);
        faultOf(2, "a+b", Check.NONE);
        faultOf(2, "a+c", 2);
        faultOf(2, "c", 0);
        faultOf(5, "f+a", 0);
        faultOf(5, "e+a-f", 4);
        faultOf(6, "a+b-a+b-a+b-a+b-a+b-a+b-a+b-a+b-a+b-a+b", Check.NONE);
        faultOf(6, "a+b-a+b-a+b-a+b-a+b-a+b-a+b-a+b-a+b-a+b-", 40);
        LastScale x = new LastScale();
        Check.say(x, "e+f");
        Check.due("fault by six", x.fault(), Check.NONE);
        x.sacks(5);
        Check.due("fault by five", x.fault(), 2);
        x.sacks(4);
        Check.due("fault by four", x.fault(), 0);
        Check.due("signs stay on the pad", x.told(0), 3);
    }

    private static void faultOf(int sacks, String line, int want) {
        LastScale x = Check.scale(sacks);
        Check.say(x, line);
        Check.due("fault of " + line + " by " + sacks, x.fault(), want);
        Check.due("signs after fault of " + line, x.told(0), line.length());
        if (want != Check.NONE) {
            Check.due("line " + line + " by " + sacks, x.line(), Check.NO);
            Check.due("signs after refused " + line, x.told(0), line.length());
        }
    }

    private static void line() {
        LastScale x = new LastScale();
        Check.due("line() of nothing", x.line(), Check.NO);
        Check.due("line a", Check.write(x, "a"), 0);
        Check.due("lifts of a", x.told(30), 1);
        Check.due("pad is empty", x.told(0), 0);
        Check.due("line b+a", Check.write(x, "b+a"), 1);
        Check.due("line c-d=e", Check.write(x, "c-d=e"), 3);
        Check.due("line a+b-a", Check.write(x, "a+b-a"), 5);
        int[] lifts = {4, 2, 1, 1, 1, 0};
        for (int i = 0; i < 6; i++) {
            Check.due("lifts of " + i, x.told(30 + i), lifts[i]);
        }
        Check.say(x, "a+");
        Check.due("line with a fault", x.line(), Check.NO);
        Check.due("pad stays", x.told(0), 2);
        Check.due("lifts stay", x.told(30), 4);
        Check.due("sayings stay", x.told(2), 5);
        x.say('c');
        Check.due("line mended", x.line(), 6);
    }

    private static void lineFull() {
        LastScale x = Check.scale(6, "a+b-a+b-a+b-a+b-a+b");
        Check.due("nine sayings", x.told(2), 9);
        Check.say(x, "c+d+e+f+c");
        Check.due("line of four more", x.line(), Check.FULL);
        Check.due("pad stays", x.told(0), 9);
        Check.due("lifts stay", x.told(32), 0);
        Check.due("sayings stay", x.told(2), 9);
        Check.say(x, "+");
        Check.due("a fault goes before full", x.line(), Check.NO);
        Check.due("line of three more", Check.write(x, "c+d+e+f"), 12);
        Check.say(x, "a=b");
        Check.due("a thirteenth", x.line(), Check.FULL);
        x.wipe();
        Check.due("one sack fits still", Check.write(x, "f"), 12);
        Check.due("lifts of f", x.told(35), 2);
        x.strike();
        Check.due("a twelfth after strike", Check.write(x, "a=b"), 12);
        x = new LastScale();
        Check.due("thirteen at once", Check.write(x, "a+b+a+b+a+b+a+b+a+b+a+b+a+b"), Check.FULL);
        Check.due("twelve at once", Check.write(x, "a+b+a+b+a+b+a+b+a+b+a+b+a"), 12);
        Check.due("nineteen at once", Check.write(x, "a+b+a+b+a+b+a+b+a+b+a+b+a+b+a+b+a+b+a+b"), Check.FULL);
    }

    private static void strike() {
        LastScale x = new LastScale();
        Check.due("strike() of nothing", x.strike(), Check.NO);
        Check.write(x, "a+b-c");
        Check.due("strike()", x.strike(), 1);
        Check.due("lifts stay", x.told(32), 1);
        Check.due("saying(1, 0)", x.saying(1, 0), Check.UNKNOWN);
        Check.due("saying(0, 0)", x.saying(0, 0), 1);
        Check.due("follows(2, 1)", x.follows(2, 1), Check.NONE);
        Check.due("strike()", x.strike(), 0);
        Check.due("strike() of none", x.strike(), Check.NO);
        Check.due("line after strike", Check.write(x, "c+a"), 1);
        Check.due("lifts go on", x.saying(0, 4), 2);
        Check.due("lifts go on", x.saying(0, 3), 2);
    }

    private static void saying() {
        LastScale x = Check.scale(6, "a+b-c=a", "f", "f-a");
        int[][] want = {
            {1, 0, 1, 1, 1},
            {2, 1, 2, 1, 1},
            {0, 2, 0, 2, 1},
            {0, 5, 2, 3, 2},
        };
        for (int i = 0; i < want.length; i++) {
            for (int what = 0; what < 5; what++) {
                Check.due("saying(" + i + ", " + what + ")", x.saying(i, what), want[i][what]);
            }
        }
        Check.due("saying(4, 0)", x.saying(4, 0), Check.UNKNOWN);
        Check.due("saying(-1, 0)", x.saying(-1, 0), Check.UNKNOWN);
        Check.due("saying(12, 0)", x.saying(12, 0), Check.UNKNOWN);
        Check.due("saying(4, 9)", x.saying(4, 9), Check.UNKNOWN);
        Check.due("saying(0, 5)", x.saying(0, 5), Check.OUTSIDE);
        Check.due("saying(0, -1)", x.saying(0, -1), Check.OUTSIDE);
        Check.due("saying(MAX, MAX)", x.saying(Integer.MAX_VALUE, Integer.MAX_VALUE), Check.UNKNOWN);
    }
}
