/** A scale that knows only the last sack: lines of a day, and what follows of them. */
public final class LastScale {
    public static final int NONE = -6, UNKNOWN = -1, OUTSIDE = -2, STATE = -3, FULL = -4, NO = -5;

    private static final int FEWEST_SACKS = 2, MOST_SACKS = 6;
    private static final int MOST_SIGNS = 40, FIRST_SIGN = 33, LAST_SIGN = 126;
    private static final int MOST_SAYINGS = 12;
    private static final int MOST_PLANNED = 5;
    private static final int MOST_TOLL = 99, MOST_LOSS = 20, MOST_KNOWN = 999, MOST_WEIGHT = 99;
    private static final int FIRST_TOLL = 10, FIRST_WEIGHT = 50;
    private static final int IMAGES = 2;

    /** How a sack was, or is, against another one. */
    private static final int ALIKE = 0, HEAVIER = 1, LIGHTER = 2;

    /** What a saying keeps, and where. */
    private static final int LAID = 0, BEFORE = 1, HOW = 2, LAID_LIFTS = 3, BEFORE_LIFTS = 4;
    private static final int SAYING_PARTS = 5;

    private final Pad pad;
    private final Book book;
    private final Book[] images;
    private final Relation relation;
    private final Spans spans;
    private final FalseSayings falseSayings;
    private final WeighedLine weighedLine;
    private final Planner[] planners;

    public LastScale() {
        pad = new Pad();
        book = new Book();
        images = new Book[IMAGES];
        relation = new Relation();
        spans = new Spans();
        falseSayings = new FalseSayings();
        weighedLine = new WeighedLine();
        planners = new Planner[MOST_PLANNED + 1];
    }

    // ---- 1 lines, the book

    public int sacks(int n) {
        if (n < FEWEST_SACKS || n > MOST_SACKS) {
            return OUTSIDE;
        }
        int before = book.sackCount;
        book.beginWith(n);
        return before;
    }

    public int say(int sign) {
        if (sign < FIRST_SIGN || sign > LAST_SIGN) {
            return OUTSIDE;
        }
        if (pad.size >= MOST_SIGNS) {
            return FULL;
        }
        pad.put(sign);
        return pad.size;
    }

    public int wipe() {
        int before = pad.size;
        pad.clear();
        return before;
    }

    public int fault() {
        return pad.firstFault(book.sackCount);
    }

    public int line() {
        if (pad.firstFault(book.sackCount) != NONE) {
            return NO;
        }
        if (book.sayingCount + pad.size / 2 > MOST_SAYINGS) {
            return FULL;
        }
        book.write(pad);
        pad.clear();
        return book.sayingCount;
    }

    public int strike() {
        if (book.sayingCount == 0) {
            return NO;
        }
        book.sayingCount--;
        return book.sayingCount;
    }

    public int saying(int i, int what) {
        if (i < 0 || i >= book.sayingCount) {
            return UNKNOWN;
        }
        if (what < 0 || what >= SAYING_PARTS) {
            return OUTSIDE;
        }
        return book.sayings[i][what];
    }

    // ---- 2 what follows

    public int follows(int sack, int other) {
        if (!book.has(sack) || !book.has(other)) {
            return UNKNOWN;
        }
        if (!readBook()) {
            return STATE;
        }
        return relation.against(sack, other);
    }

    public int open(int what) {
        if (what < 0 || what > 2) {
            return OUTSIDE;
        }
        boolean canBe = readBook();
        if (what == 2) {
            return canBe ? 1 : 0;
        }
        if (!canBe) {
            return STATE;
        }
        return what == 0 ? relation.openPairs() : relation.groupCount();
    }

    public int rank(int sack, int end) {
        if (!book.has(sack)) {
            return UNKNOWN;
        }
        if (!isEnd(end)) {
            return OUTSIDE;
        }
        if (!readBook()) {
            return STATE;
        }
        return end == 0 ? relation.leastRank(sack) : relation.greatestRank(sack);
    }

    public int orders() {
        if (!readBook()) {
            return STATE;
        }
        return relation.orderCount();
    }

    public int toll(int rank, int v) {
        if (rank < 0 || rank >= MOST_SACKS || v < 0 || v > MOST_TOLL) {
            return OUTSIDE;
        }
        int before = book.tolls[rank];
        book.tolls[rank] = v;
        return before;
    }

    public int pays(int sack, int end) {
        if (sack != -1 && !book.has(sack)) {
            return UNKNOWN;
        }
        if (!isEnd(end)) {
            return OUTSIDE;
        }
        if (!readBook()) {
            return STATE;
        }
        return sack == -1 ? paymentOfAll(end) : paymentOf(sack, end);
    }

    private int paymentOfAll(int end) {
        int sum = 0;
        for (int sack = 0; sack < book.sackCount; sack++) {
            sum += paymentOf(sack, end);
        }
        return sum;
    }

    private int paymentOf(int sack, int end) {
        int last = relation.greatestRank(sack);
        int payment = end == 0 ? MOST_TOLL : 0;
        for (int rank = relation.leastRank(sack); rank <= last && rank < MOST_SACKS; rank++) {
            int toll = book.tolls[rank];
            payment = end == 0 ? Math.min(payment, toll) : Math.max(payment, toll);
        }
        return payment;
    }

    /** Reads what all sayings say together; false if it can not be. */
    private boolean readBook() {
        relation.read(book, 0);
        return relation.canBe;
    }

    private static boolean isEnd(int end) {
        return end == 0 || end == 1;
    }

    // ---- 3 the next sack

    public int more(int lies, int what) {
        if (lies != -1 && !book.has(lies)) {
            return UNKNOWN;
        }
        if (what < 0 || what > 1) {
            return OUTSIDE;
        }
        if (!readBook()) {
            return STATE;
        }
        int groups = relation.groupCount();
        if (groups < 1 || groups > MOST_PLANNED) {
            return NO;
        }
        Planner planner = plannerFor(groups);
        int lying = lies == -1 ? Planner.EMPTY : relation.groupOf(lies);
        int order = groupOrder(groups);
        int fewest = planner.fewestLifts(order, lying);
        if (what == 0) {
            return fewest;
        }
        int next = planner.firstOf(order, lying, fewest);
        return next == Planner.EMPTY ? NONE : relation.leaderOf(next);
    }

    private Planner plannerFor(int groups) {
        Planner planner = planners[groups];
        if (planner == null) {
            planner = new Planner(groups);
            planners[groups] = planner;
        }
        return planner;
    }

    private int groupOrder(int groups) {
        int order = 0;
        for (int heavy = 0; heavy < groups; heavy++) {
            for (int light = 0; light < groups; light++) {
                if (relation.isHeavier(relation.leaderOf(heavy), relation.leaderOf(light))) {
                    order |= Planner.pair(heavy, light);
                }
            }
        }
        return order;
    }

    // ---- 4 spans

    public int known(int sack, int least, int greatest) {
        if (!book.has(sack)) {
            return UNKNOWN;
        }
        if (least < 0 || greatest < least || greatest > MOST_KNOWN) {
            return OUTSIDE;
        }
        book.least[sack] = least;
        book.greatest[sack] = greatest;
        return 1;
    }

    public int loss(int v) {
        if (v < 0 || v > MOST_LOSS) {
            return OUTSIDE;
        }
        int before = book.lossPerLift;
        book.lossPerLift = v;
        return before;
    }

    public int span(int sack, int end) {
        if (!book.has(sack)) {
            return UNKNOWN;
        }
        if (!isEnd(end)) {
            return OUTSIDE;
        }
        if (!spans.settle(book)) {
            return NONE;
        }
        return end == 0 ? spans.low[sack] : spans.high[sack];
    }

    // ---- 5 false sayings, weights

    public int lies(int what) {
        if (what < 0 || what > 2) {
            return OUTSIDE;
        }
        falseSayings.find(book, relation);
        if (what == 0) {
            return falseSayings.fewest;
        }
        return what == 1 ? falseSayings.first : falseSayings.inEach;
    }

    public int weight(int sack, int v) {
        if (!book.has(sack)) {
            return UNKNOWN;
        }
        if (v < 0 || v > MOST_WEIGHT) {
            return OUTSIDE;
        }
        int before = book.weights[sack];
        book.weights[sack] = v;
        return before;
    }

    public int leaves(int order) {
        if (!weighedLine.readNumber(order, book.sackCount)) {
            return OUTSIDE;
        }
        return weighedLine.pairsLeftOpen(book.weights);
    }

    public int lineBy(int which, int what) {
        if (which < 0 || which > 1 || what < 0 || what > 1) {
            return OUTSIDE;
        }
        weighedLine.findExtreme(book.weights, book.sackCount, which == 1);
        return what == 0 ? weighedLine.extremeNumber : weighedLine.extremeOpen;
    }

    public int image(int n) {
        if (n < 0 || n >= IMAGES) {
            return OUTSIDE;
        }
        Book image = images[n];
        if (image == null) {
            image = new Book();
            images[n] = image;
        }
        image.copyFrom(book);
        return 1;
    }

    public int restore(int n) {
        if (n < 0 || n >= IMAGES) {
            return OUTSIDE;
        }
        Book image = images[n];
        if (image == null) {
            return STATE;
        }
        book.copyFrom(image);
        return 1;
    }

    public int told(int what) {
        switch (what) {
            case 0: return pad.size;
            case 1: return book.sackCount;
            case 2: return book.sayingCount;
            case 3: return book.lossPerLift;
            default: return toldOfRow(what);
        }
    }

    private int toldOfRow(int what) {
        if (what < 10 || what >= 60) {
            return OUTSIDE;
        }
        int row = what / 10;
        int place = what % 10;
        // Tolls belong to ranks, and there are always six of these.
        if (place >= (row == 1 ? MOST_SACKS : book.sackCount)) {
            return OUTSIDE;
        }
        switch (row) {
            case 1: return book.tolls[place];
            case 2: return book.weights[place];
            case 3: return book.lifts[place];
            case 4: return book.least[place];
            default: return book.greatest[place];
        }
    }

    /** The signs of the line that is being said. */
    private static final class Pad {
        private final int[] signs = new int[MOST_SIGNS];
        private int size = 0;

        private void put(int sign) {
            if (size < MOST_SIGNS) {
                signs[size] = sign;
                size++;
            }
        }

        private void clear() {
            size = 0;
        }

        private int firstFault(int sackCount) {
            for (int place = 0; place < size; place++) {
                if (!mayStand(place, sackCount)) {
                    return place;
                }
            }
            return size % 2 == 1 ? NONE : size;
        }

        private boolean mayStand(int place, int sackCount) {
            int sign = signs[place];
            if (place % 2 == 1) {
                return sign == '+' || sign == '-' || sign == '=';
            }
            if (sign < 'a' || sign >= 'a' + sackCount) {
                return false;
            }
            return place < 2 || signs[place - 2] != sign;
        }

        private int sackAt(int place) {
            return signs[place] - 'a';
        }

        private int howAt(int place) {
            int sign = signs[place];
            if (sign == '=') {
                return ALIKE;
            }
            return sign == '+' ? HEAVIER : LIGHTER;
        }
    }

    /** All that an image keeps. */
    private static final class Book {
        private final int[][] sayings = new int[MOST_SAYINGS][SAYING_PARTS];
        private final int[] lifts = new int[MOST_SACKS];
        private final int[] least = new int[MOST_SACKS];
        private final int[] greatest = new int[MOST_SACKS];
        private final int[] tolls = new int[MOST_SACKS];
        private final int[] weights = new int[MOST_SACKS];
        private int sackCount;
        private int sayingCount;
        private int lossPerLift;

        private Book() {
            for (int place = 0; place < MOST_SACKS; place++) {
                tolls[place] = FIRST_TOLL;
                weights[place] = FIRST_WEIGHT;
            }
            beginWith(MOST_SACKS);
        }

        private void beginWith(int count) {
            sackCount = count;
            sayingCount = 0;
            for (int sack = 0; sack < MOST_SACKS; sack++) {
                lifts[sack] = 0;
                least[sack] = 0;
                greatest[sack] = MOST_KNOWN;
            }
        }

        private boolean has(int sack) {
            return sack >= 0 && sack < sackCount;
        }

        /** Writes a line without a fault, for which there is room. */
        private void write(Pad pad) {
            for (int place = 0; place < pad.size; place += 2) {
                int sack = pad.sackAt(place);
                lifts[sack]++;
                if (place >= 2) {
                    addSaying(sack, pad.sackAt(place - 2), pad.howAt(place - 1));
                }
            }
        }

        private void addSaying(int sack, int before, int how) {
            if (sayingCount >= MOST_SAYINGS) {
                return;
            }
            int[] saying = sayings[sayingCount];
            saying[LAID] = sack;
            saying[BEFORE] = before;
            saying[HOW] = how;
            saying[LAID_LIFTS] = lifts[sack];
            saying[BEFORE_LIFTS] = lifts[before];
            sayingCount++;
        }

        private void copyFrom(Book other) {
            for (int i = 0; i < MOST_SAYINGS; i++) {
                System.arraycopy(other.sayings[i], 0, sayings[i], 0, SAYING_PARTS);
            }
            System.arraycopy(other.lifts, 0, lifts, 0, MOST_SACKS);
            System.arraycopy(other.least, 0, least, 0, MOST_SACKS);
            System.arraycopy(other.greatest, 0, greatest, 0, MOST_SACKS);
            System.arraycopy(other.tolls, 0, tolls, 0, MOST_SACKS);
            System.arraycopy(other.weights, 0, weights, 0, MOST_SACKS);
            sackCount = other.sackCount;
            sayingCount = other.sayingCount;
            lossPerLift = other.lossPerLift;
        }
    }

    /** What sayings say together, as if weights did not change. */
    private static final class Relation {
        /** Bit j of row i: sack i is surely no less heavy than sack j. */
        private final int[] noLess = new int[MOST_SACKS];
        private final int[] ways = new int[1 << MOST_SACKS];
        private int sackCount;
        /** Bits of the sacks that lead their groups: each group's least sack. */
        private int leaders;
        private boolean canBe;

        /** Reads all sayings of the book but those whose bits are left out. */
        private void read(Book book, int leftOut) {
            sackCount = book.sackCount;
            for (int sack = 0; sack < MOST_SACKS; sack++) {
                noLess[sack] = 1 << sack;
            }
            for (int i = 0; i < book.sayingCount; i++) {
                if ((leftOut >> i & 1) == 0) {
                    believe(book.sayings[i]);
                }
            }
            close();
            findLeaders();
            canBe = true;
            for (int i = 0; i < book.sayingCount && canBe; i++) {
                canBe = (leftOut >> i & 1) == 1 || !contradicts(book.sayings[i]);
            }
        }

        private void believe(int[] saying) {
            int sack = saying[LAID];
            int before = saying[BEFORE];
            if (saying[HOW] != LIGHTER) {
                noLess[sack] |= 1 << before;
            }
            if (saying[HOW] != HEAVIER) {
                noLess[before] |= 1 << sack;
            }
        }

        private void close() {
            for (int through = 0; through < sackCount; through++) {
                for (int sack = 0; sack < sackCount; sack++) {
                    if (isNoLess(sack, through)) {
                        noLess[sack] |= noLess[through];
                    }
                }
            }
        }

        /** A sack is heavier than itself just if something said heavier is also no heavier. */
        private boolean contradicts(int[] saying) {
            if (saying[HOW] == HEAVIER) {
                return isNoLess(saying[BEFORE], saying[LAID]);
            }
            return saying[HOW] == LIGHTER && isNoLess(saying[LAID], saying[BEFORE]);
        }

        private boolean isNoLess(int sack, int other) {
            return (noLess[sack] >> other & 1) == 1;
        }

        private boolean isHeavier(int sack, int other) {
            return isNoLess(sack, other) && !isNoLess(other, sack);
        }

        private boolean isAlike(int sack, int other) {
            return isNoLess(sack, other) && isNoLess(other, sack);
        }

        private int against(int sack, int other) {
            if (isAlike(sack, other)) {
                return ALIKE;
            }
            if (isNoLess(sack, other)) {
                return HEAVIER;
            }
            return isNoLess(other, sack) ? LIGHTER : NONE;
        }

        private int openPairs() {
            int count = 0;
            for (int sack = 0; sack < sackCount; sack++) {
                for (int other = sack + 1; other < sackCount; other++) {
                    if (against(sack, other) == NONE) {
                        count++;
                    }
                }
            }
            return count;
        }

        private void findLeaders() {
            leaders = 0;
            for (int sack = 0; sack < sackCount; sack++) {
                if (!followsOneAlike(sack)) {
                    leaders |= 1 << sack;
                }
            }
        }

        private boolean followsOneAlike(int sack) {
            for (int other = 0; other < sack; other++) {
                if (isAlike(sack, other)) {
                    return true;
                }
            }
            return false;
        }

        private boolean isLeader(int sack) {
            return (leaders >> sack & 1) == 1;
        }

        private int groupCount() {
            return Integer.bitCount(leaders);
        }

        /** Groups are numbered from 0 on, by their leaders. */
        private int groupOf(int sack) {
            int group = 0;
            for (int other = 0; other < sackCount; other++) {
                if (isAlike(sack, other)) {
                    return group;
                }
                if (isLeader(other)) {
                    group++;
                }
            }
            return group;
        }

        private int leaderOf(int group) {
            int left = group;
            for (int sack = 0; sack < sackCount; sack++) {
                if (isLeader(sack)) {
                    if (left == 0) {
                        return sack;
                    }
                    left--;
                }
            }
            return 0;
        }

        private int heavierLeaders(int sack) {
            int bits = 0;
            for (int other = 0; other < sackCount; other++) {
                if (isLeader(other) && isHeavier(other, sack)) {
                    bits |= 1 << other;
                }
            }
            return bits;
        }

        private int leastRank(int sack) {
            return Integer.bitCount(heavierLeaders(sack));
        }

        private int greatestRank(int sack) {
            int notBefore = 1;
            for (int other = 0; other < sackCount; other++) {
                if (isLeader(other) && isHeavier(sack, other)) {
                    notBefore++;
                }
            }
            return groupCount() - notBefore;
        }

        private int orderCount() {
            ways[0] = 1;
            for (int first = 1; first < ways.length; first++) {
                ways[first] = (first & ~leaders) == 0 ? waysToBegin(first) : 0;
            }
            return ways[leaders];
        }

        /** In how many orders just these leaders can come ahead of all others. */
        private int waysToBegin(int first) {
            int sum = 0;
            for (int last = 0; last < sackCount; last++) {
                boolean within = (first >> last & 1) == 1;
                if (within && (heavierLeaders(last) & ~first) == 0) {
                    sum += ways[first & ~(1 << last)];
                }
            }
            return sum;
        }
    }

    /**
     * The fewest lifts that bring all groups into one order. An order, as far as it is
     * known, is a set of bits, one for each pair of a heavier and a lighter group; it
     * always holds all that follows of it.
     */
    private static final class Planner {
        private static final int EMPTY = -1;
        private static final int COST_BITS = 4, COST_MASK = 15, NO_WAY = 15;
        private static final int ROW_MASK = 31;
        /** For 0 to 5 groups: in how many ways each pair can be heavier, lighter or open. */
        private static final int[] CODES = {1, 1, 3, 27, 729, 59049};

        private final int groups;
        private final int pairs;
        /** For each order by its code: the costs for each group that may lie there; 0: not yet found. */
        private final int[] found;

        private Planner(int groupCount) {
            groups = Math.max(0, Math.min(groupCount, MOST_PLANNED));
            pairs = groups * (groups - 1) / 2;
            found = new int[CODES[groups]];
        }

        private static int pair(int heavy, int light) {
            return 1 << (heavy * MOST_PLANNED + light);
        }

        private static boolean isOpen(int order, int group, int other) {
            return (order & (pair(group, other) | pair(other, group))) == 0;
        }

        private boolean isWhole(int order) {
            return Integer.bitCount(order) >= pairs;
        }

        private int fewestLifts(int order, int lying) {
            if (isWhole(order)) {
                return 0;
            }
            if (lying != EMPTY) {
                return costWith(costs(order, 0), lying);
            }
            int fewest = NO_WAY;
            for (int group = 0; group < groups; group++) {
                fewest = Math.min(fewest, costOfLaying(order, EMPTY, group));
            }
            return fewest;
        }

        /** The first group that can be laid first, so that no more lifts than the fewest are needed. */
        private int firstOf(int order, int lying, int fewest) {
            if (fewest == 0) {
                return EMPTY;
            }
            for (int group = 0; group < groups; group++) {
                if (group != lying && costOfLaying(order, lying, group) == fewest) {
                    return group;
                }
            }
            return EMPTY;
        }

        /** Each try tells a pair that was open, so that the depth never passes the pairs. */
        private int costs(int order, int depth) {
            if (isWhole(order) || depth > pairs) {
                return 0;
            }
            int code = codeOf(order);
            if (code >= found.length) {
                return 0;
            }
            if (found[code] == 0) {
                found[code] = withDetours(order, costsOfTelling(order, depth));
            }
            return found[code];
        }

        /** A group with no open pair keeps NO_WAY here: from it a detour comes first. */
        private int costsOfTelling(int order, int depth) {
            int costs = (1 << groups * COST_BITS) - 1;
            for (int group = 1; group < groups; group++) {
                for (int other = 0; other < group; other++) {
                    if (isOpen(order, group, other)) {
                        int ifHeavier = costs(joined(order, group, other), depth + 1);
                        int ifLighter = costs(joined(order, other, group), depth + 1);
                        costs = withLess(costs, other, 1 + worse(ifHeavier, ifLighter, group));
                        costs = withLess(costs, group, 1 + worse(ifHeavier, ifLighter, other));
                    }
                }
            }
            return costs;
        }

        /**
         * Laying a group whose pair is known tells nothing, but another group lies there
         * then. It could have been laid from any other one, so that one such lift is enough.
         */
        private int withDetours(int order, int told) {
            int costs = told;
            for (int lying = 0; lying < groups; lying++) {
                for (int group = 0; group < groups; group++) {
                    if (group != lying && !isOpen(order, lying, group)) {
                        costs = withLess(costs, lying, 1 + costWith(told, group));
                    }
                }
            }
            return costs;
        }

        private static int withLess(int costs, int lying, int cost) {
            int place = lying * COST_BITS;
            if (cost >= (costs >> place & COST_MASK)) {
                return costs;
            }
            return costs & ~(COST_MASK << place) | cost << place;
        }

        private int costOfLaying(int order, int lying, int group) {
            if (lying == EMPTY || !isOpen(order, lying, group)) {
                return 1 + costWith(costs(order, 0), group);
            }
            int ifHeavier = costs(joined(order, group, lying), 1);
            int ifLighter = costs(joined(order, lying, group), 1);
            return 1 + worse(ifHeavier, ifLighter, group);
        }

        private static int worse(int costs, int otherCosts, int lying) {
            return Math.max(costWith(costs, lying), costWith(otherCosts, lying));
        }

        private static int costWith(int costs, int lying) {
            return costs >> lying * COST_BITS & COST_MASK;
        }

        private int joined(int order, int heavy, int light) {
            int below = 1 << light | order >> light * MOST_PLANNED & ROW_MASK;
            int result = order;
            for (int group = 0; group < groups; group++) {
                if (group == heavy || (order & pair(group, heavy)) != 0) {
                    result |= below << group * MOST_PLANNED;
                }
            }
            return result;
        }

        private int codeOf(int order) {
            int code = 0;
            for (int group = 1; group < groups; group++) {
                for (int other = 0; other < group; other++) {
                    code *= 3;
                    if ((order & pair(group, other)) != 0) {
                        code += 1;
                    } else if ((order & pair(other, group)) != 0) {
                        code += 2;
                    }
                }
            }
            return code;
        }
    }

    /** Between which weights each sack must have been at the beginning. */
    private static final class Spans {
        private final int[] low = new int[MOST_SACKS];
        private final int[] high = new int[MOST_SACKS];
        private boolean moved;

        /** False if no weights fit all that is known and said. */
        private boolean settle(Book book) {
            System.arraycopy(book.least, 0, low, 0, MOST_SACKS);
            System.arraycopy(book.greatest, 0, high, 0, MOST_SACKS);
            // A chain of sayings passes each sack once at most; what still moves after
            // as many rounds goes round in a ring and would move for ever.
            for (int round = 0; round <= MOST_SACKS; round++) {
                moved = false;
                for (int i = 0; i < book.sayingCount; i++) {
                    hear(book.sayings[i], book.lossPerLift);
                }
                if (!moved) {
                    return allFit(book.sackCount);
                }
            }
            return false;
        }

        private void hear(int[] saying, int lossPerLift) {
            int sack = saying[LAID];
            int before = saying[BEFORE];
            int apart = saying[HOW] == ALIKE ? 0 : 1;
            if (saying[HOW] != LIGHTER) {
                keepAbove(sack, before, apart - lossPerLift * saying[BEFORE_LIFTS]);
            }
            if (saying[HOW] != HEAVIER) {
                keepAbove(before, sack, apart - lossPerLift * saying[LAID_LIFTS]);
            }
        }

        /** The heavy one's weight is no less than the light one's and that much more. */
        private void keepAbove(int heavy, int light, int by) {
            if (low[heavy] < low[light] + by) {
                low[heavy] = low[light] + by;
                moved = true;
            }
            if (high[light] > high[heavy] - by) {
                high[light] = high[heavy] - by;
                moved = true;
            }
        }

        private boolean allFit(int sackCount) {
            for (int sack = 0; sack < sackCount; sack++) {
                if (low[sack] > high[sack]) {
                    return false;
                }
            }
            return true;
        }
    }

    /** The fewest sayings without which the others can be. */
    private static final class FalseSayings {
        private int fewest;
        private int first;
        private int inEach;

        private void find(Book book, Relation relation) {
            fewest = MOST_SAYINGS + 1;
            first = 0;
            inEach = 0;
            for (int set = 0; set < 1 << book.sayingCount; set++) {
                int size = Integer.bitCount(set);
                if (size <= fewest) {
                    relation.read(book, set);
                    if (relation.canBe) {
                        take(set, size);
                    }
                }
            }
        }

        private void take(int set, int size) {
            if (size < fewest) {
                fewest = size;
                first = set;
                inEach = set;
            } else {
                inEach &= set;
            }
        }
    }

    /** An order of all sacks, laid one behind another, when their weights are known. */
    private static final class WeighedLine {
        /** In how many orders six sacks can be laid. */
        private static final int MOST_LINES = 720;

        private final int[] line = new int[MOST_SACKS];
        private int length;
        private int extremeNumber;
        private int extremeOpen;

        /** False if the number's digits are not each sack once. */
        private boolean readNumber(int number, int sackCount) {
            if (number < 0) {
                return false;
            }
            length = sackCount;
            int rest = number;
            int seen = 0;
            for (int place = length - 1; place >= 0; place--) {
                int sack = rest % 10;
                if (sack >= length || (seen >> sack & 1) == 1) {
                    return false;
                }
                line[place] = sack;
                seen |= 1 << sack;
                rest /= 10;
            }
            return rest == 0;
        }

        private int number() {
            int number = 0;
            for (int place = 0; place < length; place++) {
                number = number * 10 + line[place];
            }
            return number;
        }

        /** Two places are told of just if the line never turns between them. */
        private int pairsLeftOpen(int[] weights) {
            int open = length * (length - 1) / 2;
            for (int from = 0; from < length; from++) {
                int way = 0;
                for (int to = from + 1; to < length; to++) {
                    int step = Integer.compare(weights[line[to]], weights[line[to - 1]]);
                    if (way * step < 0) {
                        break;
                    }
                    way = way == 0 ? step : way;
                    open--;
                }
            }
            return open;
        }

        /** Finds the first line that leaves fewest pairs open, or most. */
        private void findExtreme(int[] weights, int sackCount, boolean most) {
            length = sackCount;
            for (int place = 0; place < length; place++) {
                line[place] = place;
            }
            extremeNumber = number();
            extremeOpen = pairsLeftOpen(weights);
            for (int i = 1; i < MOST_LINES && advance(); i++) {
                int open = pairsLeftOpen(weights);
                if (most ? open > extremeOpen : open < extremeOpen) {
                    extremeNumber = number();
                    extremeOpen = open;
                }
            }
        }

        /** Goes to the next line by numbers; false if this was the last. */
        private boolean advance() {
            int place = length - 2;
            while (place >= 0 && line[place] > line[place + 1]) {
                place--;
            }
            if (place < 0) {
                return false;
            }
            int greater = length - 1;
            while (greater > place && line[greater] < line[place]) {
                greater--;
            }
            swap(place, greater);
            int left = place + 1;
            for (int right = length - 1; left < right; right--) {
                swap(left, right);
                left++;
            }
            return true;
        }

        private void swap(int place, int other) {
            int sack = line[place];
            line[place] = line[other];
            line[other] = sack;
        }
    }
}
