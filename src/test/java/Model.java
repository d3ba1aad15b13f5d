import java.math.BigInteger;
import java.util.ArrayList;
import java.util.HashMap;
import java.util.List;
import java.util.Map;

/**
 * The document told a second time, by other means: what follows is what holds in every
 * weighing that can be, the next sack is found by trying every plan. Slow, and never wrong
 * by the same slip as the class.
 */
final class Model {
    static final class Kept {
        int sacks = 6;
        List<int[]> sayings = new ArrayList<>();
        int[] lifts = new int[6];
        int[] least = new int[6];
        int[] greatest = {999, 999, 999, 999, 999, 999};
        int[] tolls = {10, 10, 10, 10, 10, 10};
        int[] weights = {50, 50, 50, 50, 50, 50};
        int loss = 0;

        Kept copy() {
            Kept other = new Kept();
            other.sacks = sacks;
            other.sayings = new ArrayList<>(sayings);
            other.lifts = lifts.clone();
            other.least = least.clone();
            other.greatest = greatest.clone();
            other.tolls = tolls.clone();
            other.weights = weights.clone();
            other.loss = loss;
            return other;
        }
    }

    String pad = "";
    Kept now = new Kept();
    final Kept[] images = new Kept[2];

    /** All ways to put sacks on levels, by the number of sacks. */
    private static final int[][][] LEVELS = new int[7][][];
    private static final Map<String, Integer> PLANS = new HashMap<>();

    // What the book lets be, kept till it changes.
    private boolean canBe;
    private int[][] against;
    private List<int[]> orders;
    private int[] leaders;
    private int fewestFalse;
    private int firstFalse;
    private int inEachFalse;

    Model() {
        think();
    }

    private static int[][] levels(int sacks) {
        if (LEVELS[sacks] == null) {
            int count = (int) Math.pow(sacks, sacks);
            LEVELS[sacks] = new int[count][sacks];
            for (int i = 0; i < count; i++) {
                int rest = i;
                for (int sack = 0; sack < sacks; sack++) {
                    LEVELS[sacks][i][sack] = rest % sacks;
                    rest /= sacks;
                }
            }
        }
        return LEVELS[sacks];
    }

    private static int how(int weight, int other) {
        return weight == other ? 0 : weight > other ? 1 : 2;
    }

    private static int falseIn(List<int[]> sayings, int[] levels) {
        int bits = 0;
        for (int i = 0; i < sayings.size(); i++) {
            int[] saying = sayings.get(i);
            if (how(levels[saying[0]], levels[saying[1]]) != saying[2]) {
                bits |= 1 << i;
            }
        }
        return bits;
    }

    /** Looks at every weighing: which sayings it makes false, and what holds where none is. */
    void think() {
        int n = now.sacks;
        int[][] seen = new int[n][n];
        canBe = false;
        fewestFalse = 13;
        for (int[] levels : levels(n)) {
            int bits = falseIn(now.sayings, levels);
            int size = Integer.bitCount(bits);
            if (size < fewestFalse) {
                fewestFalse = size;
                firstFalse = bits;
                inEachFalse = bits;
            } else if (size == fewestFalse) {
                firstFalse = Math.min(firstFalse, bits);
                inEachFalse &= bits;
            }
            if (bits == 0) {
                canBe = true;
                for (int sack = 0; sack < n; sack++) {
                    for (int other = 0; other < n; other++) {
                        seen[sack][other] |= 1 << how(levels[sack], levels[other]);
                    }
                }
            }
        }
        against = new int[n][n];
        for (int sack = 0; sack < n; sack++) {
            for (int other = 0; other < n; other++) {
                int bits = seen[sack][other];
                against[sack][other] = bits == 1 ? 0 : bits == 2 ? 1 : bits == 4 ? 2 : -6;
            }
        }
        findOrders();
    }

    /** Orders are the weighings on as many levels as there are groups, groups unlike. */
    private void findOrders() {
        int n = now.sacks;
        leaders = new int[n];
        int groups = 0;
        for (int sack = 0; sack < n; sack++) {
            leaders[sack] = sack;
            for (int other = sack; other >= 0; other--) {
                if (against[sack][other] == 0) {
                    leaders[sack] = other;
                }
            }
            groups += leaders[sack] == sack ? 1 : 0;
        }
        orders = new ArrayList<>();
        for (int[] levels : levels(n)) {
            boolean fits = canBe && falseIn(now.sayings, levels) == 0;
            for (int sack = 0; sack < n && fits; sack++) {
                fits = levels[sack] < groups;
                for (int other = 0; other < sack && fits; other++) {
                    fits = (levels[sack] == levels[other]) == (against[sack][other] == 0);
                }
            }
            if (fits) {
                orders.add(levels);
            }
        }
    }

    private int groups() {
        int groups = 0;
        for (int sack = 0; sack < now.sacks; sack++) {
            groups += leaders[sack] == sack ? 1 : 0;
        }
        return groups;
    }

    private boolean has(int sack) {
        return sack >= 0 && sack < now.sacks;
    }

    int sacks(int n) {
        if (n < 2 || n > 6) {
            return -2;
        }
        int before = now.sacks;
        Kept next = new Kept();
        next.sacks = n;
        next.loss = now.loss;
        next.tolls = now.tolls;
        next.weights = now.weights;
        now = next;
        think();
        return before;
    }

    int say(int sign) {
        if (sign < 33 || sign > 126) {
            return -2;
        }
        if (pad.length() == 40) {
            return -4;
        }
        pad += (char) sign;
        return pad.length();
    }

    int wipe() {
        int before = pad.length();
        pad = "";
        return before;
    }

    int fault() {
        String there = "abcdef".substring(0, now.sacks);
        for (int length = 1; length <= pad.length(); length++) {
            String begin = pad.substring(0, length);
            String more = length % 2 == 1 ? "" : "[-+=]";
            boolean fits = begin.matches("[" + there + "]([-+=][" + there + "])*" + more)
                && !begin.matches(".*([a-f])[-+=]\\1.*");
            if (!fits) {
                return length - 1;
            }
        }
        return pad.length() % 2 == 0 ? pad.length() : -6;
    }

    int line() {
        if (fault() != -6) {
            return -5;
        }
        if (now.sayings.size() + pad.length() / 2 > 12) {
            return -4;
        }
        int before = -1;
        for (int place = 0; place < pad.length(); place += 2) {
            int sack = pad.charAt(place) - 'a';
            now.lifts[sack]++;
            if (place > 0) {
                int how = "=+-".indexOf(pad.charAt(place - 1));
                now.sayings.add(new int[] {sack, before, how, now.lifts[sack], now.lifts[before]});
            }
            before = sack;
        }
        pad = "";
        think();
        return now.sayings.size();
    }

    int strike() {
        if (now.sayings.isEmpty()) {
            return -5;
        }
        now.sayings.remove(now.sayings.size() - 1);
        think();
        return now.sayings.size();
    }

    int saying(int i, int what) {
        if (i < 0 || i >= now.sayings.size()) {
            return -1;
        }
        return what < 0 || what > 4 ? -2 : now.sayings.get(i)[what];
    }

    int follows(int sack, int other) {
        if (!has(sack) || !has(other)) {
            return -1;
        }
        return canBe ? against[sack][other] : -3;
    }

    int open(int what) {
        if (what < 0 || what > 2) {
            return -2;
        }
        if (what == 2) {
            return canBe ? 1 : 0;
        }
        if (!canBe) {
            return -3;
        }
        int open = 0;
        for (int[] row : against) {
            for (int how : row) {
                open += how == -6 ? 1 : 0;
            }
        }
        return what == 0 ? open / 2 : groups();
    }

    /** By the orders themselves: the first and the last place that a sack has in one. */
    int rank(int sack, int end) {
        if (!has(sack)) {
            return -1;
        }
        if (end != 0 && end != 1) {
            return -2;
        }
        if (!canBe) {
            return -3;
        }
        int least = 6;
        int greatest = 0;
        for (int[] order : orders) {
            int rank = groups() - 1 - order[sack];
            least = Math.min(least, rank);
            greatest = Math.max(greatest, rank);
        }
        return end == 0 ? least : greatest;
    }

    int orders() {
        return canBe ? orders.size() : -3;
    }

    int toll(int rank, int v) {
        if (rank < 0 || rank > 5 || v < 0 || v > 99) {
            return -2;
        }
        int before = now.tolls[rank];
        now.tolls[rank] = v;
        return before;
    }

    int pays(int sack, int end) {
        if (sack == -1 && (end == 0 || end == 1) && canBe) {
            int sum = 0;
            for (int each = 0; each < now.sacks; each++) {
                sum += pays(each, end);
            }
            return sum;
        }
        int first = rank(sack == -1 ? 0 : sack, 0);
        int checked = rank(sack == -1 ? 0 : sack, end);
        if (checked < 0) {
            return checked;
        }
        int last = rank(sack, 1);
        List<Integer> all = new ArrayList<>();
        for (int rank = first; rank <= last; rank++) {
            all.add(now.tolls[rank]);
        }
        all.sort(null);
        return all.get(end == 0 ? 0 : all.size() - 1);
    }

    int more(int lies, int what) {
        if (lies != -1 && !has(lies)) {
            return -1;
        }
        if (what != 0 && what != 1) {
            return -2;
        }
        if (!canBe) {
            return -3;
        }
        if (groups() > 5) {
            return -5;
        }
        List<Integer> first = new ArrayList<>();
        for (int sack = 0; sack < now.sacks; sack++) {
            if (leaders[sack] == sack) {
                first.add(sack);
            }
        }
        List<int[]> left = new ArrayList<>();
        for (int[] order : orders) {
            int[] short1 = new int[first.size()];
            for (int group = 0; group < short1.length; group++) {
                short1[group] = order[first.get(group)];
            }
            left.add(short1);
        }
        int lying = lies == -1 ? -1 : first.indexOf(leaders[lies]);
        int lifts = 0;
        while (!told(left, lying, lifts)) {
            lifts++;
        }
        if (what == 0) {
            return lifts;
        }
        for (int group = 0; group < first.size() && lifts > 0; group++) {
            if (group != lying && toldLaying(left, lying, group, lifts)) {
                return first.get(group);
            }
        }
        return -6;
    }

    /** Whether so many lifts tell, in the worst case, which of the orders that are left it is. */
    private static boolean told(List<int[]> left, int lying, int lifts) {
        if (left.size() <= 1) {
            return true;
        }
        if (lifts == 0) {
            return false;
        }
        String key = key(left) + ":" + lying;
        // Kept: the fewest that are known to do, and 100 times the most that are known not to.
        int known = PLANS.getOrDefault(key, 99);
        int yes = known % 100;
        int no = known / 100;
        if (lifts >= yes || lifts <= no) {
            return lifts >= yes;
        }
        boolean found = false;
        for (int group = 0; group < left.get(0).length && !found; group++) {
            found = group != lying && toldLaying(left, lying, group, lifts);
        }
        PLANS.put(key, found ? no * 100 + lifts : lifts * 100 + yes);
        return found;
    }

    private static boolean toldLaying(List<int[]> left, int lying, int group, int lifts) {
        if (lying == -1) {
            return told(left, group, lifts - 1);
        }
        List<int[]> heavier = new ArrayList<>();
        List<int[]> lighter = new ArrayList<>();
        for (int[] order : left) {
            (order[group] > order[lying] ? heavier : lighter).add(order);
        }
        return told(heavier, group, lifts - 1) && told(lighter, group, lifts - 1);
    }

    private static String key(List<int[]> left) {
        BigInteger bits = BigInteger.ZERO;
        for (int[] order : left) {
            int number = 0;
            for (int level : order) {
                number = number * order.length + level;
            }
            bits = bits.setBit(number);
        }
        return left.get(0).length + ":" + bits.toString(36);
    }

    int known(int sack, int least, int greatest) {
        if (!has(sack)) {
            return -1;
        }
        if (least < 0 || least > 999 || greatest < 0 || greatest > 999 || greatest < least) {
            return -2;
        }
        now.least[sack] = least;
        now.greatest[sack] = greatest;
        return 1;
    }

    int loss(int v) {
        if (v < 0 || v > 20) {
            return -2;
        }
        int before = now.loss;
        now.loss = v;
        return before;
    }

    /** By the greatest difference of any two, a stone of weight 0 being one of them. */
    int span(int sack, int end) {
        if (!has(sack)) {
            return -1;
        }
        if (end != 0 && end != 1) {
            return -2;
        }
        int n = now.sacks;
        int[][] atLeast = new int[n + 1][n + 1];
        for (int one = 0; one < n; one++) {
            for (int other = 0; other < n; other++) {
                atLeast[one][other] = one == other ? 0 : -100000;
            }
            atLeast[one][n] = now.least[one];
            atLeast[n][one] = -now.greatest[one];
        }
        for (int[] saying : now.sayings) {
            int plus = saying[2] == 0 ? 0 : 1;
            if (saying[2] != 2) {
                raise(atLeast, saying[0], saying[1], plus - now.loss * saying[4]);
            }
            if (saying[2] != 1) {
                raise(atLeast, saying[1], saying[0], plus - now.loss * saying[3]);
            }
        }
        for (int way = 0; way <= n; way++) {
            for (int one = 0; one <= n; one++) {
                for (int other = 0; other <= n; other++) {
                    raise(atLeast, one, other, atLeast[one][way] + atLeast[way][other]);
                }
            }
        }
        for (int one = 0; one <= n; one++) {
            if (atLeast[one][one] > 0) {
                return -6;
            }
        }
        return end == 0 ? atLeast[sack][n] : -atLeast[n][sack];
    }

    private static void raise(int[][] atLeast, int one, int other, int by) {
        atLeast[one][other] = Math.max(atLeast[one][other], by);
    }

    int lies(int what) {
        if (what < 0 || what > 2) {
            return -2;
        }
        return what == 0 ? fewestFalse : what == 1 ? firstFalse : inEachFalse;
    }

    int weight(int sack, int v) {
        if (!has(sack)) {
            return -1;
        }
        if (v < 0 || v > 99) {
            return -2;
        }
        int before = now.weights[sack];
        now.weights[sack] = v;
        return before;
    }

    /** The order's digits, the first one's first; null if it is none. */
    private int[] digits(int order) {
        String text = String.valueOf(order);
        while (order >= 0 && text.length() < now.sacks) {
            text = "0" + text;
        }
        if (text.length() != now.sacks) {
            return null;
        }
        int[] line = new int[now.sacks];
        for (int sack = 0; sack < now.sacks; sack++) {
            int place = text.indexOf('0' + sack);
            if (place < 0) {
                return null;
            }
            line[place] = sack;
        }
        return line;
    }

    int leaves(int order) {
        int[] line = digits(order);
        return line == null ? -2 : openAfter(line);
    }

    /** By walking from each sack over what was said, never down and never up. */
    private int openAfter(int[] line) {
        int open = 0;
        for (int one = 0; one < line.length; one++) {
            boolean[] up = new boolean[line.length];
            boolean[] down = new boolean[line.length];
            walk(line, one, 1, up);
            walk(line, one, -1, down);
            for (int other = 0; other < line.length; other++) {
                open += up[other] || down[other] ? 0 : 1;
            }
        }
        return open / 2;
    }

    private void walk(int[] line, int at, int way, boolean[] seen) {
        seen[at] = true;
        for (int next = at - 1; next <= at + 1; next += 2) {
            if (next >= 0 && next < line.length && !seen[next]
                && (now.weights[line[next]] - now.weights[line[at]]) * way >= 0) {
                walk(line, next, way, seen);
            }
        }
    }

    int lineBy(int which, int what) {
        if (which < 0 || which > 1 || what < 0 || what > 1) {
            return -2;
        }
        int best = -1;
        int bestOpen = 0;
        for (int order = 0; order < 543211; order = nextOrder(order)) {
            int open = leaves(order);
            if (open >= 0 && (best < 0 || (which == 0 ? open < bestOpen : open > bestOpen))) {
                best = order;
                bestOpen = open;
            }
        }
        return what == 0 ? best : bestOpen;
    }

    /** Passes over numbers that have a digit that is no sack, so that it does not take for ever. */
    private int nextOrder(int order) {
        int next = order + 1;
        int unit = 1;
        while (next / unit % 10 >= now.sacks) {
            next += (10 - now.sacks) * unit;
            unit *= 10;
        }
        return now.sacks < 6 && next >= Math.pow(10, now.sacks) ? 543211 : next;
    }

    int image(int n) {
        if (n != 0 && n != 1) {
            return -2;
        }
        images[n] = now.copy();
        return 1;
    }

    int restore(int n) {
        if (n != 0 && n != 1) {
            return -2;
        }
        if (images[n] == null) {
            return -3;
        }
        now = images[n].copy();
        think();
        return 1;
    }

    int told(int what) {
        int[][] rows = {null, now.tolls, now.weights, now.lifts, now.least, now.greatest};
        if (what >= 0 && what <= 3) {
            return new int[] {pad.length(), now.sacks, now.sayings.size(), now.loss}[what];
        }
        if (what < 10 || what > 59 || what % 10 > 5 || what >= 20 && !has(what % 10)) {
            return -2;
        }
        return rows[what / 10][what % 10];
    }
}
