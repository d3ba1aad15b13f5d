import java.util.Random;

/** Runs of calls, all promises mixed, each answer held against the model's. The seeds are fixed. */
public final class ReferenceTest {
    private static final int RUNS = 120, CALLS = 512;
    private static final int[] ODD = {-1, -2, 7, 12, 33, 100, 1000, Integer.MIN_VALUE, Integer.MAX_VALUE, -6};

    private final Random random;
    private final LastScale x = new LastScale();
    private final Model y = new Model();
    /** Truth in one run of two: lines that are true of some order seldom can not be. */
    private final int[] truth = new int[6];
    private final boolean honest;
    private final String run;
    private int calls = 0;

    private ReferenceTest(int seed) {
        random = new Random(seed);
        run = "run " + seed + ": ";
        honest = seed % 3 != 0;
        for (int sack = 0; sack < 6; sack++) {
            truth[sack] = random.nextInt(6);
        }
    }

    public static void main(String[] args) {
        for (int seed = 0; seed < RUNS; seed++) {
            new ReferenceTest(seed).go();
        }
        Check.end();
    }

    private void due(String call, int got, int want) {
        calls++;
        Check.due(run + call, got, want);
    }

    private void go() {
        if (random.nextInt(3) != 0) {
            int n = 2 + random.nextInt(5);
            due("sacks(" + n + ")", x.sacks(n), y.sacks(n));
        }
        while (calls < CALLS - 45) {
            int kind = random.nextInt(20);
            if (kind < 5) {
                speak();
            } else if (kind < 9) {
                set();
            } else {
                ask();
            }
        }
        while (calls < CALLS) {
            ask();
        }
    }

    /** Mostly a number that fits, at times any. */
    private int near(int first, int last) {
        if (random.nextInt(25) == 0) {
            return ODD[random.nextInt(ODD.length)];
        }
        return first + random.nextInt(last - first + 1);
    }

    private int sack() {
        return near(0, y.now.sacks - (random.nextInt(20) == 0 ? 0 : 1));
    }

    private void say(int sign) {
        due("say(" + sign + ")", x.say(sign), y.say(sign));
    }

    private void speak() {
        int length = random.nextInt(random.nextInt(4) == 0 ? 7 : 3);
        int before = -1;
        for (int i = 0; i <= length; i++) {
            int sack = random.nextInt(y.now.sacks);
            if (sack == before) {
                sack = (sack + 1) % y.now.sacks;
            }
            if (before >= 0) {
                int how = honest ? Integer.compare(truth[sack], truth[before]) : random.nextInt(3) - 1;
                say("-=+".charAt(random.nextInt(30) == 0 ? 0 : how + 1));
            }
            say(random.nextInt(60) == 0 ? near(30, 128) : 'a' + sack);
            before = sack;
        }
        if (random.nextInt(10) == 0) {
            say(near(33, 126));
        }
        due("fault()", x.fault(), y.fault());
        if (random.nextInt(8) != 0) {
            due("line()", x.line(), y.line());
        }
        if (random.nextInt(3) == 0) {
            due("wipe()", x.wipe(), y.wipe());
        }
        if (y.now.sayings.size() > 8 || random.nextInt(4) == 0) {
            for (int i = random.nextInt(9); i > 0; i--) {
                due("strike()", x.strike(), y.strike());
            }
        }
    }

    private void set() {
        int sack = sack();
        int a = near(0, 99);
        switch (random.nextInt(9)) {
            case 0:
                if (random.nextInt(6) == 0) {
                    int n = near(1, 7);
                    due("sacks(" + n + ")", x.sacks(n), y.sacks(n));
                }
                break;
            case 1:
                due("toll(" + sack + ", " + a + ")", x.toll(sack, a), y.toll(sack, a));
                break;
            case 2: case 3:
                int least = near(0, 999);
                int greatest = random.nextInt(3) == 0 ? near(0, 999) : near(500, 999);
                due("known(" + sack + ", " + least + ", " + greatest + ")",
                    x.known(sack, least, greatest), y.known(sack, least, greatest));
                break;
            case 4:
                int v = near(0, 21);
                due("loss(" + v + ")", x.loss(v), y.loss(v));
                break;
            case 5: case 6:
                int w = random.nextBoolean() ? a : a % 4;
                due("weight(" + sack + ", " + w + ")", x.weight(sack, w), y.weight(sack, w));
                break;
            default:
                int n = near(0, 2);
                if (random.nextBoolean()) {
                    due("image(" + n + ")", x.image(n), y.image(n));
                } else {
                    due("restore(" + n + ")", x.restore(n), y.restore(n));
                }
                break;
        }
    }

    private void ask() {
        int sack = sack();
        int end = near(0, 1);
        int what = near(0, 2);
        switch (random.nextInt(12)) {
            case 0:
                int i = near(0, 12);
                int part = near(0, 5);
                due("saying(" + i + ", " + part + ")", x.saying(i, part), y.saying(i, part));
                break;
            case 1:
                int other = sack();
                due("follows(" + sack + ", " + other + ")", x.follows(sack, other), y.follows(sack, other));
                break;
            case 2:
                due("open(" + what + ")", x.open(what), y.open(what));
                break;
            case 3:
                due("rank(" + sack + ", " + end + ")", x.rank(sack, end), y.rank(sack, end));
                break;
            case 4:
                due("orders()", x.orders(), y.orders());
                break;
            case 5:
                int payer = random.nextInt(3) == 0 ? -1 : sack;
                due("pays(" + payer + ", " + end + ")", x.pays(payer, end), y.pays(payer, end));
                break;
            case 6: case 7:
                int lies = random.nextInt(4) == 0 ? -1 : sack;
                due("more(" + lies + ", " + end + ")", x.more(lies, end), y.more(lies, end));
                break;
            case 8:
                due("span(" + sack + ", " + end + ")", x.span(sack, end), y.span(sack, end));
                break;
            case 9:
                due("lies(" + what + ")", x.lies(what), y.lies(what));
                break;
            case 10:
                askOfLines();
                break;
            default:
                int row = near(0, 61);
                due("told(" + row + ")", x.told(row), y.told(row));
                break;
        }
    }

    private void askOfLines() {
        if (random.nextInt(4) == 0) {
            int which = near(0, 1);
            int what = near(0, 1);
            due("lineBy(" + which + ", " + what + ")", x.lineBy(which, what), y.lineBy(which, what));
            return;
        }
        int order = 0;
        int left = (1 << y.now.sacks) - 1;
        while (left != 0) {
            int sack = random.nextInt(6);
            if ((left >> sack & 1) == 1) {
                left &= ~(1 << sack);
                order = order * 10 + sack;
            }
        }
        if (random.nextInt(12) == 0) {
            order = random.nextBoolean() ? order / 10 : random.nextInt(700000);
        }
        due("leaves(" + order + ")", x.leaves(order), y.leaves(order));
    }
}
