/** Promises 9 to 15: a test of its own for each sentence of the document that names an edge. */
public final class EdgesFollowsTest {
    private static final String RING = "a+b+c+d+e+f+a";

    public static void main(String[] args) {
        followsItself();
        followsOfASackThatThereIsNot();
        followsOfTheFirstAndTheLastSack();
        followsOfAnEmptyBook();
        canNotBeByTwoSayings();
        canNotBeByTheTwelfthSaying();
        canBeInARingOfAlikeOnes();
        stateGoesLast();
        canBeAgain();
        openTooLowTooHigh();
        openOfNoneAndOfAll();
        openWhenItCanNotBe();
        rankEndTooLowTooHigh();
        rankOfASackThatThereIsNot();
        rankTheLeastAndTheGreatest();
        rankCountsGroups();
        ordersOneAndAll();
        tollOfARankThatThereIsNot();
        tollTooLowTooHigh();
        tollTheLeastAndTheGreatest();
        tollsAreSixByTwoSacks();
        paysOfASackThatThereIsNot();
        paysEndTooLowTooHigh();
        paysByRanksWithinAlone();
        paysNothingAndAll();
        moreOfASackThatThereIsNot();
        moreWhatTooLowTooHigh();
        moreOfFiveGroups();
        moreOfSixGroups();
        moreOfOneGroup();
        moreWhenNoneIsNeeded();
        moreAnyOneAtFirst();
        moreLaysAnotherGroup();
        moreStateBeforeNo();
        Check.end();
    }

    // Promise 9: 0 alike (itself), NONE: OPEN. UNKNOWN; STATE.

    private static void followsItself() {
        for (int n = 2; n <= 6; n++) {
            for (int sack = 0; sack < n; sack++) {
                Check.due("itself, nothing said", Check.scale(n).follows(sack, sack), 0);
                Check.due("itself, a+b", Check.scale(n, "a+b").follows(sack, sack), 0);
            }
        }
    }

    private static void followsOfASackThatThereIsNot() {
        for (int n = 2; n <= 6; n++) {
            LastScale x = Check.scale(n, "a+b");
            LastScale y = Check.scale(n, "a+b-a+b=a");
            for (int sack : Check.notFrom(0, n - 1)) {
                Check.due("follows(" + sack + ", 0) of " + n, x.follows(sack, 0), Check.UNKNOWN);
                Check.due("follows(1, " + sack + ") of " + n, x.follows(1, sack), Check.UNKNOWN);
                Check.due("follows of it against itself", x.follows(sack, sack), Check.UNKNOWN);
                Check.due("UNKNOWN goes before STATE", y.follows(sack, 0), Check.UNKNOWN);
                Check.due("UNKNOWN goes before STATE", y.follows(0, sack), Check.UNKNOWN);
            }
        }
    }

    private static void followsOfTheFirstAndTheLastSack() {
        for (int n = 2; n <= 6; n++) {
            LastScale x = Check.scale(n, "a-" + (char) ('a' + n - 1));
            Check.due("the last against the first of " + n, x.follows(n - 1, 0), 2);
            Check.due("the first against the last of " + n, x.follows(0, n - 1), 1);
        }
    }

    private static void followsOfAnEmptyBook() {
        LastScale x = new LastScale();
        for (int sack = 0; sack < 36; sack++) {
            int want = sack / 6 == sack % 6 ? 0 : Check.NONE;
            Check.due("nothing said", x.follows(sack / 6, sack % 6), want);
        }
    }

    // It CAN NOT BE, if a SACK would be heavier than itself (what needs that it can be is
    // refused with STATE).

    private static void refused(String name, LastScale x) {
        Check.due("open(2), " + name, x.open(2), 0);
        for (int sack = 0; sack < x.told(1); sack++) {
            Check.due("follows itself, " + name, x.follows(sack, sack), Check.STATE);
            for (int end = 0; end < 2; end++) {
                Check.due("follows, " + name, x.follows(sack, end), Check.STATE);
                Check.due("rank, " + name, x.rank(sack, end), Check.STATE);
                Check.due("pays, " + name, x.pays(sack, end), Check.STATE);
                Check.due("more, " + name, x.more(sack, end), Check.STATE);
            }
        }
        for (int end = 0; end < 2; end++) {
            Check.due("open(" + end + "), " + name, x.open(end), Check.STATE);
            Check.due("pays of all, " + name, x.pays(-1, end), Check.STATE);
            Check.due("more of none, " + name, x.more(-1, end), Check.STATE);
        }
        Check.due("orders(), " + name, x.orders(), Check.STATE);
    }

    private static void canNotBeByTwoSayings() {
        refused("heavier and lighter", Check.scale(2, "a+b", "a-b"));
        refused("lighter and heavier", Check.scale(2, "a-b", "a+b"));
        refused("heavier and alike", Check.scale(2, "a+b", "b=a"));
        refused("alike and lighter", Check.scale(2, "a=b", "b-a"));
        refused("the last two of six", Check.scale(6, "e+f", "f+e"));
        refused("a ring of three, one heavier", Check.scale(3, "a=b=c+a"));
        refused("a ring of six", Check.scale(6, RING));
        refused("a ring of six, lighter", Check.scale(6, "a-b-c-d-e-f-a"));
    }

    private static void canNotBeByTheTwelfthSaying() {
        LastScale x = Check.scale(6, "a=b=c=d=e=f=a=b=c=d=e=f");
        Check.due("eleven that can be", x.open(2), 1);
        Check.write(x, "f-a");
        refused("the twelfth", x);
        x = Check.scale(6, "a+f", "a=b=c=d=e=f=a=b=c=d=e=f");
        refused("the first", x);
    }

    private static void canBeInARingOfAlikeOnes() {
        LastScale x = Check.scale(6, "a=b=c=d=e=f=a");
        Check.due("open(2)", x.open(2), 1);
        Check.due("open(1)", x.open(1), 1);
        x = Check.scale(3, "a+b-a", "b+c-b");
        Check.due("there and back", x.open(2), 1);
    }

    private static void stateGoesLast() {
        LastScale x = Check.scale(2, "a+b+a");
        for (int wrong : Check.notFrom(0, 1)) {
            Check.due("rank(0, " + wrong + ")", x.rank(0, wrong), Check.OUTSIDE);
            Check.due("rank(" + wrong + ", 0)", x.rank(wrong, 0), Check.UNKNOWN);
            Check.due("pays(-1, " + wrong + ")", x.pays(-1, wrong), Check.OUTSIDE);
            Check.due("pays(0, " + wrong + ")", x.pays(0, wrong), Check.OUTSIDE);
            Check.due("more(-1, " + wrong + ")", x.more(-1, wrong), Check.OUTSIDE);
            Check.due("more(0, " + wrong + ")", x.more(0, wrong), Check.OUTSIDE);
            if (wrong != -1) {
                Check.due("pays(" + wrong + ", 0)", x.pays(wrong, 0), Check.UNKNOWN);
                Check.due("more(" + wrong + ", 0)", x.more(wrong, 0), Check.UNKNOWN);
            }
        }
    }

    private static void canBeAgain() {
        LastScale x = Check.scale(6, RING);
        x.strike();
        Check.due("open(2) after strike", x.open(2), 1);
        Check.due("orders() after strike", x.orders(), 1);
        Check.write(x, "f+a");
        refused("said again", x);
        x.sacks(6);
        Check.due("open(2) after sacks", x.open(2), 1);
        Check.due("orders() after sacks", x.orders(), 720);
    }

    // Promise 10: PAIRS that are OPEN (0), GROUPS (1), whether it can be (2). OUTSIDE; STATE (0, 1).

    private static void openTooLowTooHigh() {
        LastScale x = Check.scale(2, "a+b");
        LastScale y = Check.scale(2, "a+b+a");
        for (int what : Check.notFrom(0, 2)) {
            Check.due("open(" + what + ")", x.open(what), Check.OUTSIDE);
            Check.due("OUTSIDE goes before STATE", y.open(what), Check.OUTSIDE);
        }
    }

    private static void openOfNoneAndOfAll() {
        int pairs = 0;
        for (int n = 2; n <= 6; n++) {
            pairs += n - 1;
            Check.due("pairs open of " + n, Check.scale(n).open(0), pairs);
            Check.due("groups of " + n, Check.scale(n).open(1), n);
            Check.due("pairs open of " + n + " in a row", Check.scale(n, row(n, "+")).open(0), 0);
            Check.due("groups of " + n + " in a row", Check.scale(n, row(n, "+")).open(1), n);
            Check.due("pairs open of " + n + " alike", Check.scale(n, row(n, "=")).open(0), 0);
            Check.due("groups of " + n + " alike", Check.scale(n, row(n, "=")).open(1), 1);
        }
    }

    private static void openWhenItCanNotBe() {
        LastScale x = Check.scale(2, "a+b=a");
        Check.due("open(0)", x.open(0), Check.STATE);
        Check.due("open(1)", x.open(1), Check.STATE);
        Check.due("open(2)", x.open(2), 0);
        x.strike();
        Check.due("open(2)", x.open(2), 1);
    }

    // Promise 11: the least (end = 0), the greatest (1). UNKNOWN; OUTSIDE; STATE.

    private static void rankEndTooLowTooHigh() {
        LastScale x = Check.scale(3, "a+b");
        for (int end : Check.notFrom(0, 1)) {
            Check.due("rank(0, " + end + ")", x.rank(0, end), Check.OUTSIDE);
        }
    }

    private static void rankOfASackThatThereIsNot() {
        for (int n = 2; n <= 6; n++) {
            LastScale x = Check.scale(n, "a+b");
            for (int sack : Check.notFrom(0, n - 1)) {
                Check.due("rank(" + sack + ", 0) of " + n, x.rank(sack, 0), Check.UNKNOWN);
                Check.due("UNKNOWN goes before OUTSIDE", x.rank(sack, 2), Check.UNKNOWN);
            }
        }
    }

    private static void ranks(String name, LastScale x, int sack, int least, int greatest) {
        Check.due("the least rank of " + sack + ", " + name, x.rank(sack, 0), least);
        Check.due("the greatest rank of " + sack + ", " + name, x.rank(sack, 1), greatest);
    }

    private static String row(int sacks, String how) {
        return "a+b+c+d+e+f".substring(0, 2 * sacks - 1).replace("+", how);
    }

    private static void rankTheLeastAndTheGreatest() {
        for (int n = 2; n <= 6; n++) {
            for (int sack = 0; sack < n; sack++) {
                ranks("nothing said", Check.scale(n), sack, 0, n - 1);
                ranks("the last is the heaviest", Check.scale(n, row(n, "+")), sack, n - 1 - sack, n - 1 - sack);
                ranks("the first is the heaviest", Check.scale(n, row(n, "-")), sack, sack, sack);
                ranks("all alike", Check.scale(n, row(n, "=")), sack, 0, 0);
            }
        }
    }

    /** It is behind GROUPS, not behind SACKS, and its own does not count. */
    private static void rankCountsGroups() {
        LastScale x = Check.scale(6, "a=b=c", "d+e");
        for (int sack = 0; sack < 3; sack++) {
            ranks("alike with two more", x, sack, 0, 3);
        }
        ranks("lighter than one", x, 3, 1, 3);
        ranks("heavier than one", x, 4, 0, 2);
        ranks("alone", x, 5, 0, 3);
        Check.write(x, "e+b");
        ranks("lighter than three alike", x, 4, 1, 2);
        ranks("lighter than those and one more", x, 3, 2, 3);
    }

    // Promise 12: no two being alike. STATE.

    private static void ordersOneAndAll() {
        int all = 1;
        for (int n = 2; n <= 6; n++) {
            all *= n;
            Check.due("orders of " + n, Check.scale(n).orders(), all);
            Check.due("orders of " + n + " in a row", Check.scale(n, row(n, "+")).orders(), 1);
            Check.due("orders of " + n + " alike", Check.scale(n, row(n, "=")).orders(), 1);
            Check.due("orders of " + n + ", two alike", Check.scale(n, "a=b").orders(), all / n);
            Check.due("orders of " + n + ", a ring", Check.scale(n, "a+b+a").orders(), Check.STATE);
        }
    }

    // Promise 13: TOLLS of RANKS 0 to 5 (0 to 99; 10 at first). OUTSIDE.

    private static void tollOfARankThatThereIsNot() {
        LastScale x = new LastScale();
        for (int rank : Check.notFrom(0, 5)) {
            Check.due("toll(" + rank + ", 20)", x.toll(rank, 20), Check.OUTSIDE);
        }
        for (int rank = 0; rank < 6; rank++) {
            Check.due("toll of " + rank + " as it was", x.told(10 + rank), 10);
        }
    }

    private static void tollTooLowTooHigh() {
        for (int v : Check.notFrom(0, 99)) {
            LastScale x = new LastScale();
            Check.due("toll(0, " + v + ")", x.toll(0, v), Check.OUTSIDE);
            Check.due("toll(5, " + v + ")", x.toll(5, v), Check.OUTSIDE);
            Check.due("toll of 0 as it was", x.told(10), 10);
            Check.due("toll of 5 as it was", x.told(15), 10);
        }
    }

    private static void tollTheLeastAndTheGreatest() {
        LastScale x = new LastScale();
        for (int rank = 0; rank < 6; rank++) {
            Check.due("toll(" + rank + ", 0)", x.toll(rank, 0), 10);
            Check.due("toll(" + rank + ", 99)", x.toll(rank, 99), 0);
            Check.due("told toll", x.told(10 + rank), 99);
        }
    }

    private static void tollsAreSixByTwoSacks() {
        LastScale x = Check.scale(2);
        for (int rank = 0; rank < 6; rank++) {
            Check.due("toll(" + rank + ", 7)", x.toll(rank, 7), 10);
            Check.due("told toll " + rank, x.told(10 + rank), 7);
        }
    }

    // Promise 14: a SACK (-1: all together), by all RANKS from its least to its greatest.
    // UNKNOWN; OUTSIDE; STATE.

    private static LastScale tolled(LastScale x, int... tolls) {
        for (int rank = 0; rank < tolls.length; rank++) {
            x.toll(rank, tolls[rank]);
        }
        return x;
    }

    private static void payments(String name, LastScale x, int sack, int least, int greatest) {
        Check.due("the least that " + sack + " pays, " + name, x.pays(sack, 0), least);
        Check.due("the greatest that " + sack + " pays, " + name, x.pays(sack, 1), greatest);
    }

    private static void paysOfASackThatThereIsNot() {
        for (int n = 2; n <= 6; n++) {
            LastScale x = Check.scale(n);
            for (int sack : Check.notFrom(-1, n - 1)) {
                Check.due("pays(" + sack + ", 0) of " + n, x.pays(sack, 0), Check.UNKNOWN);
                Check.due("UNKNOWN goes before OUTSIDE", x.pays(sack, 2), Check.UNKNOWN);
            }
        }
    }

    private static void paysEndTooLowTooHigh() {
        LastScale x = Check.scale(2);
        for (int end : Check.notFrom(0, 1)) {
            Check.due("pays(0, " + end + ")", x.pays(0, end), Check.OUTSIDE);
            Check.due("pays(-1, " + end + ")", x.pays(-1, end), Check.OUTSIDE);
        }
    }

    private static void paysByRanksWithinAlone() {
        LastScale x = tolled(Check.scale(2), 50, 60, 0, 99, 0, 99);
        payments("of two", x, 0, 50, 60);
        payments("of two", x, -1, 100, 120);
        Check.write(x, "a+b");
        payments("the lighter of two", x, 0, 60, 60);
        payments("the heavier of two", x, 1, 50, 50);
        payments("both", x, -1, 110, 110);
        x = tolled(Check.scale(4, "a+b+d", "a+c+d"), 99, 20, 30, 0, 99, 99);
        payments("between two ranks", x, 1, 20, 30);
        payments("between two ranks", x, 2, 20, 30);
        payments("the first rank alone", x, 3, 99, 99);
        payments("the last rank alone", x, 0, 0, 0);
        payments("all four", x, -1, 139, 159);
        x = tolled(Check.scale(6, row(6, "-")), 1, 2, 3, 4, 5, 99);
        payments("the sixth rank", x, 5, 99, 99);
        payments("all six", x, -1, 114, 114);
    }

    private static void paysNothingAndAll() {
        LastScale x = tolled(new LastScale(), 0, 0, 0, 0, 0, 0);
        payments("tolls of 0", x, 0, 0, 0);
        payments("tolls of 0", x, -1, 0, 0);
        tolled(x, 99, 99, 99, 99, 99, 99);
        payments("tolls of 99", x, 5, 99, 99);
        payments("tolls of 99", x, -1, 594, 594);
        tolled(x, 99, 99, 0, 99, 99, 99);
        payments("one toll of 0", x, -1, 0, 594);
    }

    // Promise 15: LIFTS (what = 0), NEXT (1; NONE: none is needed), a SACK lying there
    // (-1: none). UNKNOWN; OUTSIDE; STATE; NO: more than 5 GROUPS.

    private static void plan(String name, LastScale x, int lies, int lifts, int next) {
        Check.due("lifts from " + lies + ", " + name, x.more(lies, 0), lifts);
        Check.due("next from " + lies + ", " + name, x.more(lies, 1), next);
    }

    private static void moreOfASackThatThereIsNot() {
        for (int n = 2; n <= 6; n++) {
            LastScale x = Check.scale(n);
            for (int lies : Check.notFrom(-1, n - 1)) {
                Check.due("more(" + lies + ", 0) of " + n, x.more(lies, 0), Check.UNKNOWN);
                Check.due("UNKNOWN goes before OUTSIDE", x.more(lies, 2), Check.UNKNOWN);
            }
        }
    }

    private static void moreWhatTooLowTooHigh() {
        for (int what : Check.notFrom(0, 1)) {
            Check.due("more(0, " + what + ")", Check.scale(2).more(0, what), Check.OUTSIDE);
            Check.due("more(-1, " + what + ")", Check.scale(2).more(-1, what), Check.OUTSIDE);
            Check.due("OUTSIDE goes before NO", new LastScale().more(0, what), Check.OUTSIDE);
        }
    }

    private static void moreOfFiveGroups() {
        plan("five sacks", Check.scale(5), -1, 10, 0);
        plan("five sacks", Check.scale(5), 0, 9, 1);
        for (int sack = 0; sack < 6; sack++) {
            for (int other = sack + 1; other < 6; other++) {
                String line = (char) ('a' + sack) + "=" + (char) ('a' + other);
                LastScale x = Check.scale(6, line);
                plan(line, x, -1, 10, 0);
                plan(line, x, other, 9, sack == 0 ? (other == 1 ? 2 : 1) : 0);
            }
        }
    }

    private static void moreOfSixGroups() {
        String[] lines = {"a", "a+b", row(6, "+"), row(6, "-"), "a+b-c+d-e+f"};
        for (String line : lines) {
            for (int lies = -1; lies < 6; lies++) {
                plan("six groups, " + line, Check.scale(6, line), lies, Check.NO, Check.NO);
            }
        }
        LastScale x = Check.scale(6, "f=e");
        x.strike();
        plan("six groups again", x, 0, Check.NO, Check.NO);
    }

    private static void moreOfOneGroup() {
        for (int n = 2; n <= 6; n++) {
            for (int lies = -1; lies < n; lies++) {
                plan(n + " alike", Check.scale(n, row(n, "=")), lies, 0, Check.NONE);
            }
        }
    }

    private static void moreWhenNoneIsNeeded() {
        for (int n = 2; n <= 5; n++) {
            for (int lies = -1; lies < n; lies++) {
                plan(n + " in a row", Check.scale(n, row(n, "+")), lies, 0, Check.NONE);
            }
        }
        plan("five groups of six in a row", Check.scale(6, "a=b+c+d+e+f"), 1, 0, Check.NONE);
    }

    /** Any one at first: on an empty scale a lift tells nothing. */
    private static void moreAnyOneAtFirst() {
        plan("two, none lying", Check.scale(2), -1, 2, 0);
        plan("a is told of", Check.scale(3, "b+a-c"), -1, 2, 1);
        plan("a and b are told of", Check.scale(4, "c+b+a-d", "d+b"), -1, 2, 2);
    }

    /** Each LIFT lays the SACK of another GROUP than that which lies there. */
    private static void moreLaysAnotherGroup() {
        plan("two", Check.scale(2), 0, 1, 1);
        plan("two", Check.scale(2), 1, 1, 0);
        LastScale x = Check.scale(3, "a=b");
        plan("alike with the least", x, 0, 1, 2);
        plan("alike with the least", x, 1, 1, 2);
        plan("the other group", x, 2, 1, 0);
        plan("a sack whose rank is told", Check.scale(3, "b+a-c"), 0, 2, 1);
    }

    private static void moreStateBeforeNo() {
        LastScale x = Check.scale(6, row(6, "+"));
        Check.due("six groups", x.more(0, 0), Check.NO);
        Check.write(x, "f+a");
        Check.due("it can not be", x.more(0, 0), Check.STATE);
        Check.due("UNKNOWN goes before STATE", x.more(6, 0), Check.UNKNOWN);
        Check.due("OUTSIDE goes before STATE", x.more(0, 2), Check.OUTSIDE);
        x.strike();
        Check.due("UNKNOWN goes before NO", x.more(6, 0), Check.UNKNOWN);
        Check.due("OUTSIDE goes before NO", x.more(0, 2), Check.OUTSIDE);
    }
}
