/** Promises 9 to 14: follows, open, rank, orders, toll, pays. */
public final class FollowsTest {
    public static void main(String[] args) {
        follows();
        open();
        rank();
        orders();
        toll();
        pays();
        canNotBe();
        Check.end();
    }

    /** A row for each sack: against each other one, H, L, = or a point for open. */
    private static void table(LastScale x, String... rows) {
        String signs = "=HL";
        for (int sack = 0; sack < rows.length; sack++) {
            StringBuilder row = new StringBuilder();
            for (int other = 0; other < rows.length; other++) {
                int how = x.follows(sack, other);
                row.append(how == Check.NONE ? '.' : how < 0 || how > 2 ? '?' : signs.charAt(how));
            }
            Check.due("follows of sack " + sack, row.toString(), rows[sack]);
        }
    }

    private static void follows() {
        table(new LastScale(), "=.....", ".=....", "..=...", "...=..", "....=.", ".....=");
        table(Check.scale(4, "a+b+c", "d"), "=LL.", "H=L.", "HH=.", "...=");
        table(Check.scale(4, "a=b=c"), "===.", "===.", "===.", "...=");
        table(Check.scale(4, "a=b-c=d"), "==HH", "==HH", "LL==", "LL==");
        table(Check.scale(4, "a+b-c+d"), "=L..", "H=H.", ".L=L", "..H=");
        table(Check.scale(4, "b+a+c"), "=HL.", "L=L.", "HH=.", "...=");
        table(Check.scale(4, "d=a", "a+c"), "=.L=", ".=..", "H.=H", "=.L=");
        // What closes only by way of a later sack, and of an earlier one.
        table(Check.scale(5, "e+d", "c+e", "b+c", "a+b"), "=LLLL", "H=LLL", "HH=LL", "HHH=H", "HHHL=");
        table(Check.scale(4, "a=c", "b+d", "c=b"), "===L", "===L", "===L", "HHH=");
        LastScale x = Check.scale(3, "a+b");
        Check.due("follows(3, 0)", x.follows(3, 0), Check.UNKNOWN);
        Check.due("follows(0, 3)", x.follows(0, 3), Check.UNKNOWN);
        Check.due("follows(-1, 0)", x.follows(-1, 0), Check.UNKNOWN);
        Check.due("follows(0, -1)", x.follows(0, -1), Check.UNKNOWN);
        Check.due("follows(MIN, MAX)", x.follows(Integer.MIN_VALUE, Integer.MAX_VALUE), Check.UNKNOWN);
        Check.due("a loss changes nothing", x.loss(20), 0);
        Check.due("follows(1, 0)", x.follows(1, 0), 1);
    }

    private static void openIs(String name, LastScale x, int pairs, int groups) {
        Check.due("open(0) of " + name, x.open(0), pairs);
        Check.due("open(1) of " + name, x.open(1), groups);
        Check.due("open(2) of " + name, x.open(2), 1);
    }

    private static void open() {
        openIs("two", Check.scale(2), 1, 2);
        openIs("five", Check.scale(5), 10, 5);
        openIs("a=b", Check.scale(3, "a=b"), 2, 2);
        openIs("a=b, pairs of sacks", Check.scale(6, "a=b", "c=d"), 13, 4);
        openIs("one group", Check.scale(6, "a=b=c=d=e=f"), 0, 1);
        openIs("a row", Check.scale(6, "a+b+c+d+e+f"), 0, 6);
        openIs("a+b, c+d", Check.scale(4, "a+b", "c+d"), 4, 4);
        LastScale x = new LastScale();
        Check.due("open(3)", x.open(3), Check.OUTSIDE);
        Check.due("open(-1)", x.open(-1), Check.OUTSIDE);
        Check.due("open(MIN)", x.open(Integer.MIN_VALUE), Check.OUTSIDE);
    }

    private static void ranks(LastScale x, int... wants) {
        for (int sack = 0; sack * 2 < wants.length; sack++) {
            Check.due("rank(" + sack + ", 0)", x.rank(sack, 0), wants[sack * 2]);
            Check.due("rank(" + sack + ", 1)", x.rank(sack, 1), wants[sack * 2 + 1]);
        }
    }

    private static void rank() {
        ranks(new LastScale(), 0, 5, 0, 5, 0, 5, 0, 5, 0, 5, 0, 5);
        ranks(Check.scale(3, "a+b+c"), 2, 2, 1, 1, 0, 0);
        ranks(Check.scale(4, "a+b"), 1, 3, 0, 2, 0, 3, 0, 3);
        ranks(Check.scale(4, "a=b"), 0, 2, 0, 2, 0, 2, 0, 2);
        ranks(Check.scale(5, "a=b-c=d"), 0, 1, 0, 1, 1, 2, 1, 2, 0, 2);
        ranks(Check.scale(2, "a=b"), 0, 0, 0, 0);
        LastScale x = Check.scale(4);
        Check.due("rank(4, 0)", x.rank(4, 0), Check.UNKNOWN);
        Check.due("rank(-1, 0)", x.rank(-1, 0), Check.UNKNOWN);
        Check.due("rank(-1, 7)", x.rank(-1, 7), Check.UNKNOWN);
        Check.due("rank(0, 2)", x.rank(0, 2), Check.OUTSIDE);
        Check.due("rank(0, -1)", x.rank(0, -1), Check.OUTSIDE);
    }

    private static void orders() {
        int factorial = 1;
        for (int n = 2; n <= 6; n++) {
            factorial *= n;
            Check.due("orders of " + n, Check.scale(n).orders(), factorial);
        }
        Check.due("orders, one pair told", Check.scale(6, "b-e").orders(), 360);
        Check.due("orders, a=b", Check.scale(6, "c=f").orders(), 120);
        Check.due("orders, one group", Check.scale(3, "a=b=c").orders(), 1);
        Check.due("orders, two rows", Check.scale(6, "a+b+c", "d+e+f").orders(), 20);
        Check.due("orders, zigzag", Check.scale(6, "a-b+c-d+e-f").orders(), 61);
        Check.due("orders, rows that meet", Check.scale(5, "a+b+c", "d+e", "c=e").orders(), 3);
    }

    private static void toll() {
        LastScale x = Check.scale(2);
        for (int rank = 0; rank < 6; rank++) {
            Check.due("toll(" + rank + ")", x.toll(rank, rank + 20), 10);
        }
        for (int rank = 0; rank < 6; rank++) {
            Check.due("told toll " + rank, x.told(10 + rank), rank + 20);
            Check.due("toll(" + rank + ") again", x.toll(rank, 0), rank + 20);
        }
        Check.due("toll(0, 99)", x.toll(0, 99), 0);
        Check.due("toll(0, 100)", x.toll(0, 100), Check.OUTSIDE);
        Check.due("toll(0, -1)", x.toll(0, -1), Check.OUTSIDE);
        Check.due("toll(6, 0)", x.toll(6, 0), Check.OUTSIDE);
        Check.due("toll(-1, 0)", x.toll(-1, 0), Check.OUTSIDE);
        Check.due("toll(MAX, 0)", x.toll(Integer.MAX_VALUE, 0), Check.OUTSIDE);
        Check.due("told(10)", x.told(10), 99);
    }

    private static void pays() {
        LastScale x = Check.scale(4, "a+b");
        int[] tolls = {7, 30, 2, 40, 0, 99};
        for (int rank = 0; rank < 6; rank++) {
            x.toll(rank, tolls[rank]);
        }
        // a is on ranks 1 to 3, b on 0 to 2, c and d on 0 to 3.
        int[] least = {2, 2, 2, 2};
        int[] greatest = {40, 30, 40, 40};
        for (int sack = 0; sack < 4; sack++) {
            Check.due("pays(" + sack + ", 0)", x.pays(sack, 0), least[sack]);
            Check.due("pays(" + sack + ", 1)", x.pays(sack, 1), greatest[sack]);
        }
        Check.due("pays(-1, 0)", x.pays(-1, 0), 8);
        Check.due("pays(-1, 1)", x.pays(-1, 1), 150);
        x.sacks(6);
        Check.due("pays(5, 0) of six", x.pays(5, 0), 0);
        Check.due("pays(5, 1) of six", x.pays(5, 1), 99);
        Check.due("pays(-1, 1) of six", x.pays(-1, 1), 594);
        Check.write(x, "a=b=c=d=e=f");
        Check.due("pays(-1, 0) of one group", x.pays(-1, 0), 42);
        for (int rank = 0; rank < 6; rank++) {
            x.toll(rank, 0);
        }
        Check.due("pays(0, 1) of nothing", x.pays(0, 1), 0);
        Check.due("pays(-1, 1) of nothing", x.pays(-1, 1), 0);
        x.sacks(3);
        Check.due("pays(3, 0)", x.pays(3, 0), Check.UNKNOWN);
        Check.due("pays(-2, 0)", x.pays(-2, 0), Check.UNKNOWN);
        Check.due("pays(-2, 5)", x.pays(-2, 5), Check.UNKNOWN);
        Check.due("pays(-1, 2)", x.pays(-1, 2), Check.OUTSIDE);
        Check.due("pays(0, -1)", x.pays(0, -1), Check.OUTSIDE);
    }

    private static void canNotBe() {
        refusesAll(Check.scale(3, "a+b", "b+a"));
        refusesAll(Check.scale(3, "a=b+a"));
        refusesAll(Check.scale(3, "a-b-c", "a-c=b"));
        refusesAll(Check.scale(4, "a+b+c+d+a"));
        refusesAll(Check.scale(3, "b-a=b"));
        refusesAll(Check.scale(3, "b+a=b"));
        LastScale x = Check.scale(3, "a+b+c+a");
        refusesAll(x);
        x.strike();
        Check.due("open(2) after strike", x.open(2), 1);
        Check.due("follows(2, 0) after strike", x.follows(2, 0), 1);
    }

    private static void refusesAll(LastScale x) {
        Check.due("open(2)", x.open(2), 0);
        Check.due("open(0)", x.open(0), Check.STATE);
        Check.due("open(1)", x.open(1), Check.STATE);
        Check.due("open(3)", x.open(3), Check.OUTSIDE);
        Check.due("follows(0, 0)", x.follows(0, 0), Check.STATE);
        Check.due("follows(2, 1)", x.follows(2, 1), Check.STATE);
        Check.due("follows(0, 6)", x.follows(0, 6), Check.UNKNOWN);
        Check.due("rank(2, 0)", x.rank(2, 0), Check.STATE);
        Check.due("rank(2, 2)", x.rank(2, 2), Check.OUTSIDE);
        Check.due("rank(6, 0)", x.rank(6, 0), Check.UNKNOWN);
        Check.due("orders()", x.orders(), Check.STATE);
        Check.due("pays(0, 0)", x.pays(0, 0), Check.STATE);
        Check.due("pays(-1, 1)", x.pays(-1, 1), Check.STATE);
        Check.due("pays(6, 1)", x.pays(6, 1), Check.UNKNOWN);
        Check.due("pays(0, 2)", x.pays(0, 2), Check.OUTSIDE);
        Check.due("more(0, 0)", x.more(0, 0), Check.STATE);
        Check.due("more(-1, 1)", x.more(-1, 1), Check.STATE);
        Check.due("more(6, 1)", x.more(6, 1), Check.UNKNOWN);
        Check.due("more(0, 2)", x.more(0, 2), Check.OUTSIDE);
    }
}
