/** Promise 15: more. */
public final class MoreTest {
    public static void main(String[] args) {
        small();
        groups();
        nothingToDo();
        refused();
        Check.end();
    }

    private static void more(LastScale x, int lies, int lifts, int next) {
        Check.due("more(" + lies + ", 0)", x.more(lies, 0), lifts);
        Check.due("more(" + lies + ", 1)", x.more(lies, 1), next);
    }

    private static void small() {
        LastScale x = Check.scale(2);
        more(x, -1, 2, 0);
        more(x, 0, 1, 1);
        more(x, 1, 1, 0);
        x = Check.scale(3);
        more(x, -1, 4, 0);
        more(x, 0, 3, 1);
        more(x, 2, 3, 0);
        // a and c are open; b is heavier than both.
        x = Check.scale(3, "a+b-c");
        more(x, -1, 2, 0);
        more(x, 0, 1, 2);
        more(x, 2, 1, 0);
        // From b, one lift tells nothing.
        more(x, 1, 2, 0);
        x = Check.scale(3, "c+b-a");
        more(x, 1, 2, 0);
        // a is the heaviest: from there the least of the open two.
        x = Check.scale(3, "b+a-c");
        more(x, 0, 2, 1);
        x = Check.scale(5);
        more(x, -1, 10, 0);
        more(x, 0, 9, 1);
        more(x, 3, 9, 0);
        x = Check.scale(4);
        int none = x.more(-1, 0);
        Check.due("four, one lying", x.more(2, 0), none - 1);
    }

    private static void groups() {
        // The sack that lies there counts as its group.
        LastScale x = Check.scale(4, "b=a", "d=c");
        more(x, -1, 2, 0);
        more(x, 0, 1, 2);
        more(x, 1, 1, 2);
        more(x, 2, 1, 0);
        more(x, 3, 1, 0);
        // Six sacks, five groups.
        x = Check.scale(6, "f=a");
        more(x, -1, 10, 0);
        more(x, 5, 9, 1);
        more(x, 0, 9, 1);
        more(x, 1, 9, 0);
        // Leaders that are not the first sacks.
        x = Check.scale(6, "a=b=c=d", "d+e", "d+f");
        more(x, -1, 2, 4);
        more(x, 4, 1, 5);
        more(x, 5, 1, 4);
        more(x, 3, 2, 4);
    }

    private static void nothingToDo() {
        LastScale x = Check.scale(3, "a+b+c");
        for (int lies = -1; lies < 3; lies++) {
            more(x, lies, 0, Check.NONE);
        }
        x = Check.scale(6, "a=b=c=d=e=f");
        more(x, -1, 0, Check.NONE);
        more(x, 4, 0, Check.NONE);
        x = Check.scale(6, "a+b+c+d+e=f");
        more(x, -1, 0, Check.NONE);
    }

    private static void refused() {
        LastScale x = Check.scale(6, "a+b+c+d+e+f");
        Check.due("more of six groups in order", x.more(0, 0), Check.NO);
        Check.due("more of six groups, none lying", x.more(-1, 1), Check.NO);
        Check.due("more(6, 0)", x.more(6, 0), Check.UNKNOWN);
        Check.due("more(-2, 0)", x.more(-2, 0), Check.UNKNOWN);
        Check.due("more(-2, 9)", x.more(-2, 9), Check.UNKNOWN);
        Check.due("more(0, 2)", x.more(0, 2), Check.OUTSIDE);
        Check.due("more(0, -1)", x.more(0, -1), Check.OUTSIDE);
        Check.write(x, "f+a");
        Check.due("more of what can not be", x.more(0, 0), Check.STATE);
        x.sacks(4);
        Check.due("more(4, 0)", x.more(4, 0), Check.UNKNOWN);
        Check.due("more(3, 0)", x.more(3, 0), Check.scale(4).more(0, 0));
    }
}
