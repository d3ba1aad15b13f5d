/** Promises 1 to 8: a test of its own for each sentence of the document that names an edge. */
public final class EdgesLinesTest {
    private static final String TWELVE = "a+b+a+b+a+b+a+b+a+b+a+b+a";
    private static final String FULL_PAD = "a+b-a+b-a+b-a+b-a+b-a+b-a+b-a+b-a+b-a+b-";

    public static void main(String[] args) {
        newObjectHasSixSacks();
        newObjectHasAnEmptyBook();
        newObjectHasAnEmptyPad();
        newObjectHasWhatIsSoAtFirst();
        sacksTooFewTooMany();
        sacksFromEachToEach();
        sacksEmptiesTheBook();
        sacksMakesLiftsNone();
        sacksForgetsKnownWeights();
        sacksLeavesTheRest();
        sayTheFirstAndTheLastSign();
        sayTooLowTooHigh();
        sayTheFortieth();
        sayOnAFullPad();
        sayAgainWhenSignsAreGone();
        wipeOfNothingOfOneOfAll();
        wipeLeavesTheBook();
        faultOfAnEmptyPad();
        faultOfEachFirstSign();
        faultOfEachSecondSign();
        faultOfEachThirdSign();
        faultOfASackThatThereIsNot();
        faultOfTheSameSackAgain();
        faultOfAFullPad();
        faultTellsTheFirst();
        lineOfAnEmptyPad();
        lineWithAFault();
        lineOfOneSack();
        lineThatFillsTheBook();
        lineThatIsOneTooMany();
        lineIntoAFullBook();
        lineFaultBeforeFull();
        lineCountsLiftsWithinIt();
        lineLeavesAnEmptyPad();
        liftsWithoutEnd();
        strikeOfNone();
        strikeOfAllOfAFullBook();
        strikeLeavesLifts();
        sayingTooLowTooHigh();
        sayingPartTooLowTooHigh();
        sayingTheFirstAndTheTwelfth();
        sayingOfWhatWasStruck();
        Check.end();
    }

    private static LastScale withPad(int sacks, String signs) {
        LastScale x = Check.scale(sacks);
        Check.say(x, signs);
        return x;
    }

    private static void lifts(String when, LastScale x, int... wants) {
        for (int sack = 0; sack < wants.length; sack++) {
            Check.due("lifts of " + sack + " " + when, x.told(30 + sack), wants[sack]);
        }
    }

    // Promise 1: Six SACKS, THE BOOK is empty.

    private static void newObjectHasSixSacks() {
        Check.due("told(1)", new LastScale().told(1), 6);
        Check.due("sacks(6)", new LastScale().sacks(6), 6);
        Check.due("follows(5, 0)", new LastScale().follows(5, 0), Check.NONE);
        Check.due("follows(6, 0)", new LastScale().follows(6, 0), Check.UNKNOWN);
        Check.due("line f", Check.write(new LastScale(), "f"), 0);
        Check.due("line g", Check.write(new LastScale(), "g"), Check.NO);
    }

    private static void newObjectHasAnEmptyBook() {
        Check.due("told(2)", new LastScale().told(2), 0);
        Check.due("saying(0, 0)", new LastScale().saying(0, 0), Check.UNKNOWN);
        Check.due("strike()", new LastScale().strike(), Check.NO);
        Check.due("open(0)", new LastScale().open(0), 15);
        Check.due("lies(0)", new LastScale().lies(0), 0);
        lifts("at first", new LastScale(), 0, 0, 0, 0, 0, 0);
    }

    private static void newObjectHasAnEmptyPad() {
        Check.due("told(0)", new LastScale().told(0), 0);
        Check.due("wipe()", new LastScale().wipe(), 0);
        Check.due("say", new LastScale().say('!'), 1);
    }

    private static void newObjectHasWhatIsSoAtFirst() {
        LastScale x = new LastScale();
        Check.due("loss at first", x.loss(0), 0);
        for (int i = 0; i < 6; i++) {
            Check.due("toll at first", x.toll(i, 0), 10);
            Check.due("weight at first", x.weight(i, 0), 50);
            Check.due("least at first", x.told(40 + i), 0);
            Check.due("greatest at first", x.told(50 + i), 999);
        }
        for (int n = 0; n < 2; n++) {
            Check.due("no image at first", x.restore(n), Check.STATE);
        }
    }

    // Promise 2: 2 to 6. How many SACKS there are: which it was.

    private static void sacksTooFewTooMany() {
        for (int n : Check.notFrom(2, 6)) {
            LastScale x = Check.scale(5, "a+b");
            Check.due("sacks(" + n + ")", x.sacks(n), Check.OUTSIDE);
            Check.due("sacks after sacks(" + n + ")", x.told(1), 5);
            Check.due("sayings after sacks(" + n + ")", x.told(2), 1);
            lifts("after sacks(" + n + ")", x, 1, 1, 0, 0, 0);
        }
    }

    private static void sacksFromEachToEach() {
        for (int from = 2; from <= 6; from++) {
            for (int to = 2; to <= 6; to++) {
                LastScale x = Check.scale(from);
                String call = "sacks(" + to + ") after sacks(" + from + ")";
                Check.due(call, x.sacks(to), from);
                Check.due("told(1) after " + call, x.told(1), to);
                Check.due("groups after " + call, x.open(1), to);
                Check.due("the last sack after " + call, x.weight(to - 1, 1), 50);
                Check.due("one more after " + call, x.weight(to, 1), Check.UNKNOWN);
            }
        }
    }

    private static void sacksEmptiesTheBook() {
        for (int n = 2; n <= 6; n++) {
            LastScale x = Check.scale(2, TWELVE);
            x.sacks(n);
            Check.due("sayings after sacks(" + n + ")", x.told(2), 0);
            Check.due("saying(0, 0)", x.saying(0, 0), Check.UNKNOWN);
            Check.due("strike()", x.strike(), Check.NO);
            Check.due("it can be", x.open(2), 1);
            Check.due("room for twelve", Check.write(x, TWELVE), 12);
        }
    }

    private static void sacksMakesLiftsNone() {
        LastScale x = Check.scale(6, "a+b+c+d+e+f", "f");
        x.sacks(2);
        lifts("after sacks(2)", x, 0, 0);
        x.sacks(6);
        lifts("after sacks(6)", x, 0, 0, 0, 0, 0, 0);
        Check.write(x, "f+a");
        Check.due("lifts begin anew", x.saying(0, 4), 1);
    }

    private static void sacksForgetsKnownWeights() {
        LastScale x = Check.scale(6);
        for (int sack = 0; sack < 6; sack++) {
            x.known(sack, 100 + sack, 200 + sack);
        }
        x.sacks(2);
        x.sacks(6);
        for (int sack = 0; sack < 6; sack++) {
            Check.due("least of " + sack, x.told(40 + sack), 0);
            Check.due("greatest of " + sack, x.told(50 + sack), 999);
            Check.due("span of " + sack, x.span(sack, 0), 0);
        }
    }

    /** LOSS, TOLLS, WEIGHTS, IMAGES stay; the PAD is not among what goes. */
    private static void sacksLeavesTheRest() {
        LastScale x = Check.scale(6, "a+b");
        x.loss(20);
        for (int i = 0; i < 6; i++) {
            x.toll(i, 90 + i);
            x.weight(i, 80 + i);
        }
        x.image(0);
        x.sacks(4);
        x.image(1);
        Check.say(x, "a+b");
        x.sacks(2);
        Check.due("signs", x.told(0), 3);
        x.sacks(6);
        Check.due("loss", x.told(3), 20);
        for (int i = 0; i < 6; i++) {
            Check.due("toll " + i, x.told(10 + i), 90 + i);
            Check.due("weight " + i, x.told(20 + i), 80 + i);
        }
        Check.due("the line that was on the pad", x.line(), 1);
        Check.due("restore(1)", x.restore(1), 1);
        Check.due("sacks of image 1", x.told(1), 4);
        Check.due("restore(0)", x.restore(0), 1);
        Check.due("sacks of image 0", x.told(1), 6);
    }

    // Promise 3: 40 SIGNS at most, codes 33 to 126. OUTSIDE; FULL.

    private static void sayTheFirstAndTheLastSign() {
        Check.due("say(33)", new LastScale().say(33), 1);
        Check.due("say(126)", new LastScale().say(126), 1);
    }

    private static void sayTooLowTooHigh() {
        for (int sign : Check.notFrom(33, 126)) {
            LastScale x = withPad(6, "a");
            Check.due("say(" + sign + ")", x.say(sign), Check.OUTSIDE);
            Check.due("signs after say(" + sign + ")", x.told(0), 1);
            Check.due("fault after say(" + sign + ")", x.fault(), Check.NONE);
        }
    }

    private static void sayTheFortieth() {
        LastScale x = new LastScale();
        for (int count = 1; count <= 40; count++) {
            Check.due("sign " + count, x.say('~'), count);
        }
        Check.due("told(0)", x.told(0), 40);
    }

    private static void sayOnAFullPad() {
        LastScale x = withPad(6, FULL_PAD);
        Check.due("the 41st sign", x.say('a'), Check.FULL);
        Check.due("the 41st sign again", x.say('!'), Check.FULL);
        Check.due("OUTSIDE goes before FULL", x.say(32), Check.OUTSIDE);
        Check.due("OUTSIDE goes before FULL", x.say(127), Check.OUTSIDE);
        Check.due("told(0)", x.told(0), 40);
        Check.due("fault()", x.fault(), 40);
    }

    private static void sayAgainWhenSignsAreGone() {
        LastScale x = withPad(6, FULL_PAD);
        x.wipe();
        Check.due("say after wipe", x.say('a'), 1);
        x.line();
        Check.due("say after line", x.say('a'), 1);
        Check.say(x, FULL_PAD.substring(1));
        Check.due("say on a pad filled again", x.say('a'), Check.FULL);
    }

    // Promise 4: Signs go: how many there were.

    private static void wipeOfNothingOfOneOfAll() {
        LastScale x = new LastScale();
        Check.due("wipe() of nothing", x.wipe(), 0);
        x.say('!');
        Check.due("wipe() of one", x.wipe(), 1);
        Check.due("wipe() twice", x.wipe(), 0);
        Check.say(x, FULL_PAD);
        Check.due("wipe() of all", x.wipe(), 40);
        Check.due("signs", x.told(0), 0);
        Check.due("line() after wipe", x.line(), Check.NO);
    }

    private static void wipeLeavesTheBook() {
        LastScale x = Check.scale(3, "a+b");
        Check.say(x, "c");
        x.wipe();
        Check.due("sayings", x.told(2), 1);
        lifts("after wipe", x, 1, 1, 0);
    }

    // Promise 5: the place of the first sign that can not stand there; the number of
    // signs, if more must come; NONE.

    private static void faultOfAnEmptyPad() {
        Check.due("at first", new LastScale().fault(), 0);
        LastScale x = withPad(6, "!");
        x.wipe();
        Check.due("after wipe", x.fault(), 0);
        Check.write(x, "a");
        Check.due("after line", x.fault(), 0);
    }

    private static void faultOfEachFirstSign() {
        for (int sacks = 2; sacks <= 6; sacks++) {
            for (char sign = 33; sign <= 126; sign++) {
                boolean fits = sign >= 'a' && sign < 'a' + sacks;
                Check.due(sign + " first of " + sacks,
                    withPad(sacks, String.valueOf(sign)).fault(), fits ? Check.NONE : 0);
            }
        }
    }

    private static void faultOfEachSecondSign() {
        for (char sign = 33; sign <= 126; sign++) {
            boolean fits = sign == '+' || sign == '-' || sign == '=';
            Check.due("a" + sign, withPad(6, "a" + sign).fault(), fits ? 2 : 1);
        }
    }

    private static void faultOfEachThirdSign() {
        for (int sacks = 2; sacks <= 6; sacks++) {
            for (char sign = 33; sign <= 126; sign++) {
                boolean fits = sign > 'a' && sign < 'a' + sacks;
                String line = "a=" + sign;
                Check.due(line + " of " + sacks, withPad(sacks, line).fault(), fits ? Check.NONE : 2);
            }
        }
    }

    private static void faultOfASackThatThereIsNot() {
        LastScale x = withPad(6, "a+b-c=d+e-f");
        int[] faults = {4, 6, 8, 10, Check.NONE};
        for (int sacks = 2; sacks <= 6; sacks++) {
            x.sacks(sacks);
            Check.due("fault by " + sacks, x.fault(), faults[sacks - 2]);
        }
    }

    private static void faultOfTheSameSackAgain() {
        Check.due("a+a", withPad(6, "a+a").fault(), 2);
        Check.due("a=a", withPad(6, "a=a").fault(), 2);
        Check.due("f-f", withPad(6, "f-f").fault(), 2);
        Check.due("a+b+b", withPad(6, "a+b+b").fault(), 4);
        Check.due("a+b+a", withPad(6, "a+b+a").fault(), Check.NONE);
        Check.due("a+b+a+a", withPad(6, "a+b+a+a").fault(), 6);
    }

    private static void faultOfAFullPad() {
        String most = FULL_PAD.substring(0, 39);
        Check.due("39 signs", withPad(6, most).fault(), Check.NONE);
        Check.due("38 signs", withPad(6, most.substring(0, 38)).fault(), 38);
        Check.due("40 signs, more must come", withPad(6, FULL_PAD).fault(), 40);
        Check.due("40 signs, the last is wrong", withPad(6, most + "a").fault(), 39);
        Check.due("39 signs, the last is wrong", withPad(6, most.substring(0, 38) + "a").fault(), 38);
        Check.due("40 signs, the first is wrong", withPad(6, "+" + most).fault(), 0);
    }

    private static void faultTellsTheFirst() {
        Check.due("two wrong signs", withPad(6, "a+bc!").fault(), 3);
        Check.due("a wrong sign, and more must come", withPad(6, "a!b+").fault(), 1);
        Check.due("a wrong sign, then the same sack", withPad(6, "a+g+g").fault(), 2);
        Check.due("the wrong sign is the same again", withPad(6, "ggg").fault(), 0);
    }

    // Promise 6: (the PAD is empty then). NO: there is a FAULT; without one, FULL: more
    // than 12 (nothing is written then).

    private static void lineOfAnEmptyPad() {
        LastScale x = Check.scale(2, "a+b");
        Check.due("line() of nothing", x.line(), Check.NO);
        Check.due("sayings", x.told(2), 1);
        lifts("after line() of nothing", x, 1, 1);
    }

    private static void lineWithAFault() {
        String[] lines = {"!", "a+", "a+c", "a+b!", "a+a", "ab", FULL_PAD};
        for (String line : lines) {
            LastScale x = withPad(2, line);
            Check.due("line " + line, x.line(), Check.NO);
            Check.due("signs after line " + line, x.told(0), line.length());
            Check.due("sayings after line " + line, x.told(2), 0);
            lifts("after line " + line, x, 0, 0);
        }
    }

    private static void lineOfOneSack() {
        LastScale x = Check.scale(6);
        for (int sack = 0; sack < 6; sack++) {
            x.say('a' + sack);
            Check.due("line of one sack", x.line(), 0);
            Check.due("lifts of one sack", x.told(30 + sack), 1);
        }
        Check.due("pairs open", x.open(0), 15);
    }

    private static void lineThatFillsTheBook() {
        Check.due("twelve at once", Check.write(Check.scale(2), TWELVE), 12);
        LastScale x = Check.scale(2, TWELVE.substring(0, 23));
        Check.due("eleven", x.told(2), 11);
        Check.due("a twelfth", Check.write(x, "b=a"), 12);
        x = Check.scale(2, "b=a");
        Check.due("one and eleven", Check.write(x, TWELVE.substring(0, 23)), 12);
        x = Check.scale(2);
        for (int count = 1; count <= 12; count++) {
            Check.due("one by one", Check.write(x, "b+a"), count);
        }
    }

    private static void lineThatIsOneTooMany() {
        tooMany(Check.scale(3), TWELVE + "+b");
        tooMany(Check.scale(3), FULL_PAD.substring(0, 39));
        tooMany(Check.scale(3, "a+c"), TWELVE);
        tooMany(Check.scale(3, TWELVE.substring(0, 23)), "a+b+c");
    }

    /** Nothing of the line is written, and it stands on the pad still. */
    private static void tooMany(LastScale x, String line) {
        Check.say(x, line);
        String before = Check.seen(x);
        Check.due("line " + line, x.line(), Check.FULL);
        Check.due("all after line " + line, Check.seen(x), before);
        while (x.told(2) > 0) {
            x.strike();
        }
        boolean fits = line.length() / 2 <= 12;
        Check.due("line " + line + " into an empty book", x.line(), fits ? line.length() / 2 : Check.FULL);
    }

    private static void lineIntoAFullBook() {
        tooMany(Check.scale(3, TWELVE), "c=a");
        LastScale x = Check.scale(3, TWELVE);
        Check.due("one sack asks for no room", Check.write(x, "c"), 12);
        lifts("after one more sack", x, 7, 6, 1);
        Check.say(x, "c=a");
        x.line();
        x.strike();
        Check.due("the same line after strike", x.line(), 12);
        Check.due("what it says", x.saying(11, 1), 2);
    }

    private static void lineFaultBeforeFull() {
        LastScale x = Check.scale(3, TWELVE);
        Check.say(x, "a+b+");
        Check.due("more must come, and too many", x.line(), Check.NO);
        x.say('d');
        Check.due("a sack that there is not, and too many", x.line(), Check.NO);
        x.wipe();
        Check.due("nothing, and the book is full", x.line(), Check.NO);
    }

    /** Kept for each SAYING is how often both its SACKS had been lifted till then, those two too. */
    private static void lineCountsLiftsWithinIt() {
        LastScale x = Check.scale(2, TWELVE);
        for (int i = 0; i < 12; i++) {
            Check.due("lifts of the one laid, saying " + i, x.saying(i, 3), i / 2 + 1 + i % 2);
            Check.due("lifts of the one before, saying " + i, x.saying(i, 4), i / 2 + 1);
        }
        lifts("after twelve", x, 7, 6);
    }

    private static void lineLeavesAnEmptyPad() {
        LastScale x = Check.scale(2, "a+b");
        Check.due("signs", x.told(0), 0);
        Check.due("fault()", x.fault(), 0);
        Check.due("wipe()", x.wipe(), 0);
        Check.due("line() again", x.line(), Check.NO);
    }

    private static void liftsWithoutEnd() {
        LastScale x = new LastScale();
        for (int count = 1; count <= 250; count++) {
            x.say('f');
            x.line();
        }
        Check.due("told(35)", x.told(35), 250);
        Check.write(x, "a=f");
        Check.due("saying(0, 3)", x.saying(0, 3), 251);
        Check.due("saying(0, 4)", x.saying(0, 4), 1);
    }

    // Promise 7: The last SAYING goes (its LIFTS stay): how many are left. NO: there is none.

    private static void strikeOfNone() {
        Check.due("at first", new LastScale().strike(), Check.NO);
        LastScale x = Check.scale(2, "a", "a+b");
        Check.due("the only one", x.strike(), 0);
        Check.due("after the only one", x.strike(), Check.NO);
        Check.due("sayings", x.told(2), 0);
        Check.write(x, "a+b");
        x.sacks(2);
        Check.due("after sacks", x.strike(), Check.NO);
    }

    private static void strikeOfAllOfAFullBook() {
        LastScale x = Check.scale(2, TWELVE);
        for (int left = 11; left >= 0; left--) {
            Check.due("strike() with " + (left + 1), x.strike(), left);
            Check.due("told(2)", x.told(2), left);
        }
        Check.due("strike() with none", x.strike(), Check.NO);
    }

    private static void strikeLeavesLifts() {
        LastScale x = Check.scale(2, TWELVE);
        for (int i = 0; i < 13; i++) {
            x.strike();
        }
        lifts("after all are struck", x, 7, 6);
        Check.write(x, "a+b");
        Check.due("saying(0, 3)", x.saying(0, 3), 7);
        Check.due("saying(0, 4)", x.saying(0, 4), 8);
    }

    // Promise 8: UNKNOWN; OUTSIDE.

    private static void sayingTooLowTooHigh() {
        LastScale x = Check.scale(2, "a+b-a");
        for (int i : Check.notFrom(0, 1)) {
            Check.due("saying(" + i + ", 0)", x.saying(i, 0), Check.UNKNOWN);
            Check.due("saying(" + i + ", 5)", x.saying(i, 5), Check.UNKNOWN);
        }
        Check.due("saying(0, 0) of none", new LastScale().saying(0, 0), Check.UNKNOWN);
    }

    private static void sayingPartTooLowTooHigh() {
        LastScale x = Check.scale(2, "a+b");
        for (int what : Check.notFrom(0, 4)) {
            Check.due("saying(0, " + what + ")", x.saying(0, what), Check.OUTSIDE);
        }
    }

    private static void sayingTheFirstAndTheTwelfth() {
        LastScale x = Check.scale(6, "f-e", TWELVE.substring(0, 21), "a=f");
        int[] first = {4, 5, 2, 1, 1};
        int[] last = {5, 0, 0, 2, 7};
        for (int what = 0; what < 5; what++) {
            Check.due("saying(0, " + what + ")", x.saying(0, what), first[what]);
            Check.due("saying(11, " + what + ")", x.saying(11, what), last[what]);
        }
        Check.due("saying(12, 0)", x.saying(12, 0), Check.UNKNOWN);
    }

    private static void sayingOfWhatWasStruck() {
        LastScale x = Check.scale(2, TWELVE);
        x.strike();
        Check.due("saying(11, 0)", x.saying(11, 0), Check.UNKNOWN);
        Check.due("saying(10, 0)", x.saying(10, 0), 1);
    }
}
