import java.util.ArrayList;
import java.util.List;
import java.util.function.IntSupplier;
import java.util.function.Supplier;
import java.util.function.ToIntFunction;

/**
 * Terms: refused calls answer the first of the refusals that fits, and change nothing; nor
 * does asking. Each refused call is made on an object of which a second one is kept without
 * it; both must then answer all alike, the pad, the book and both images too.
 */
public final class RefusedTest {
    /** A call that is refused, and what it has to answer. */
    private static final class Refused {
        private final String name;
        private final ToIntFunction<LastScale> call;
        private final int want;

        private Refused(String name, ToIntFunction<LastScale> call, int want) {
            this.name = name;
            this.call = call;
            this.want = want;
        }
    }

    private static final List<Refused> CALLS = new ArrayList<>();

    public static void main(String[] args) {
        eachRefusedCallChangesNothing("four sacks that can be", RefusedTest::canBe, RefusedTest::ofAnyState);
        eachRefusedCallChangesNothing("a faulty pad", RefusedTest::canBe, RefusedTest::ofAFault);
        eachRefusedCallChangesNothing("a full pad and a full book", RefusedTest::full, RefusedTest::ofFull);
        eachRefusedCallChangesNothing("it can not be", RefusedTest::canNotBe, RefusedTest::ofCanNotBe);
        eachRefusedCallChangesNothing("a new object", LastScale::new, RefusedTest::ofANewObject);
        askingChangesNothing("four sacks that can be", RefusedTest::canBe);
        askingChangesNothing("a full pad and a full book", RefusedTest::full);
        askingChangesNothing("it can not be", RefusedTest::canNotBe);
        askingChangesNothing("a new object", LastScale::new);
        askingLeavesNoTrace();
        Check.end();
    }

    private static void eachRefusedCallChangesNothing(String state, Supplier<LastScale> make, Runnable list) {
        CALLS.clear();
        list.run();
        String answers = answers(make.get());
        String later = later(make.get());
        for (Refused refused : CALLS) {
            LastScale x = make.get();
            Check.due(refused.name + ", " + state, refused.call.applyAsInt(x), refused.want);
            Check.due("answers after " + refused.name + ", " + state, answers(x), answers);
            x = make.get();
            refused.call.applyAsInt(x);
            Check.due("later, after " + refused.name + ", " + state, later(x), later);
        }
    }

    private static void askingChangesNothing(String state, Supplier<LastScale> make) {
        LastScale x = make.get();
        String first = answers(x);
        Check.due("asked again, " + state, answers(x), first);
        x = make.get();
        answers(x);
        Check.due("later, after asking, " + state, later(x), later(make.get()));
    }

    /** What becomes of it when the pad is written and the images are restored. */
    private static String later(LastScale x) {
        StringBuilder all = new StringBuilder();
        all.append(x.line()).append(' ').append(x.say('b')).append(' ').append(x.line());
        all.append(' ').append(x.told(0)).append(' ').append(x.told(2)).append(' ').append(x.told(31));
        for (int n = 1; n >= 0; n--) {
            all.append(" restore ").append(x.restore(n)).append(' ').append(Check.seen(x));
        }
        return all.toString();
    }

    private static String answers(LastScale x) {
        return Check.seen(x) + " asked" + asked(x);
    }

    private static String asked(LastScale x) {
        StringBuilder all = new StringBuilder();
        add(all, x::orders);
        int sacks = x.told(1);
        for (int sack = -1; sack < sacks; sack++) {
            int one = sack;
            for (int end = 0; end < 2; end++) {
                int other = end;
                add(all, () -> x.follows(one, other));
                add(all, () -> x.rank(one, other));
                add(all, () -> x.pays(one, other));
                add(all, () -> x.more(one, other));
                add(all, () -> x.span(one, other));
            }
        }
        for (int what = 0; what < 3; what++) {
            int one = what;
            add(all, () -> x.open(one));
            add(all, () -> x.lies(one));
            add(all, () -> x.lineBy(one / 2, one % 2));
        }
        add(all, () -> x.leaves(3120));
        return all.toString();
    }

    private static void add(StringBuilder all, IntSupplier question) {
        all.append(' ').append(question.getAsInt());
    }

    private static LastScale canBe() {
        LastScale x = Check.scale(3, "b=c");
        x.image(1);
        x.sacks(4);
        x.known(1, 20, 300);
        x.loss(4);
        x.toll(0, 1);
        x.toll(3, 0);
        x.weight(0, 4);
        x.weight(3, 99);
        Check.write(x, "a+b-c");
        Check.write(x, "d=a");
        Check.say(x, "a+");
        return x;
    }

    private static LastScale full() {
        LastScale x = Check.scale(4, "a+b+c-b-a+b+c-b-a+b+c-b-a");
        x.image(0);
        x.image(1);
        x.known(0, 7, 8);
        x.strike();
        Check.write(x, "a=d");
        Check.say(x, "a+b+a+b+a+b+a+b+a+b+a+b+a+b+a+b+a+b+a+b+");
        return x;
    }

    private static LastScale canNotBe() {
        LastScale x = Check.scale(4, "a+b+c+a");
        x.image(0);
        Check.say(x, "d=a");
        return x;
    }

    private static void refused(String name, int want, ToIntFunction<LastScale> call) {
        CALLS.add(new Refused(name, call, want));
    }

    /** By four sacks: what is not there, then what is not as told, whatever else there is. */
    private static void ofAnyState() {
        for (int wrong : new int[] {-2, 4, 5, 6, 36, Integer.MIN_VALUE, Integer.MAX_VALUE}) {
            String sack = "(" + wrong + ", ..)";
            refused("follows" + sack, Check.UNKNOWN, x -> x.follows(wrong, 0));
            refused("follows(0, " + wrong + ")", Check.UNKNOWN, x -> x.follows(0, wrong));
            refused("rank" + sack, Check.UNKNOWN, x -> x.rank(wrong, 2));
            refused("pays" + sack, Check.UNKNOWN, x -> x.pays(wrong, 2));
            refused("more" + sack, Check.UNKNOWN, x -> x.more(wrong, 2));
            refused("known" + sack, Check.UNKNOWN, x -> x.known(wrong, 2, 1));
            refused("known" + sack + ", rising", Check.UNKNOWN, x -> x.known(wrong, 1, 2));
            refused("span" + sack, Check.UNKNOWN, x -> x.span(wrong, 2));
            refused("weight" + sack, Check.UNKNOWN, x -> x.weight(wrong, 100));
            refused("weight" + sack + ", a fit one", Check.UNKNOWN, x -> x.weight(wrong, 1));
        }
        for (int wrong : new int[] {-1, 3, 7, Integer.MIN_VALUE, Integer.MAX_VALUE}) {
            String end = "(.., " + wrong + ")";
            refused("rank" + end, Check.OUTSIDE, x -> x.rank(0, wrong));
            refused("pays" + end, Check.OUTSIDE, x -> x.pays(0, wrong));
            refused("pays of all" + end, Check.OUTSIDE, x -> x.pays(-1, wrong));
            refused("more" + end, Check.OUTSIDE, x -> x.more(0, wrong));
            refused("more of none" + end, Check.OUTSIDE, x -> x.more(-1, wrong));
            refused("span" + end, Check.OUTSIDE, x -> x.span(0, wrong));
            refused("lineBy" + end, Check.OUTSIDE, x -> x.lineBy(0, wrong));
            refused("open" + end, Check.OUTSIDE, x -> x.open(wrong));
            refused("lies" + end, Check.OUTSIDE, x -> x.lies(wrong));
            refused("lineBy(" + wrong + ", ..)", Check.OUTSIDE, x -> x.lineBy(wrong, 0));
            refused("image" + end, Check.OUTSIDE, x -> x.image(wrong));
            refused("restore" + end, Check.OUTSIDE, x -> x.restore(wrong));
        }
        numbersOutside();
    }

    private static void numbersOutside() {
        for (int wrong : new int[] {-1, 1000, Integer.MIN_VALUE, Integer.MAX_VALUE}) {
            String v = "(" + wrong + ")";
            refused("say" + v, Check.OUTSIDE, x -> x.say(wrong));
            refused("sacks" + v, Check.OUTSIDE, x -> x.sacks(wrong));
            refused("toll of rank " + v, Check.OUTSIDE, x -> x.toll(wrong, 5));
            refused("toll" + v, Check.OUTSIDE, x -> x.toll(1, wrong));
            refused("known least" + v, Check.OUTSIDE, x -> x.known(0, wrong, 500));
            refused("known greatest" + v, Check.OUTSIDE, x -> x.known(0, 500, wrong));
            refused("loss" + v, Check.OUTSIDE, x -> x.loss(wrong));
            refused("weight" + v, Check.OUTSIDE, x -> x.weight(0, wrong));
            refused("leaves" + v, Check.OUTSIDE, x -> x.leaves(wrong));
            refused("told" + v, Check.OUTSIDE, x -> x.told(wrong));
            refused("saying" + v, Check.UNKNOWN, x -> x.saying(wrong, 5));
            refused("saying(0, ..)" + v, Check.OUTSIDE, x -> x.saying(0, wrong));
        }
        refused("sacks(1)", Check.OUTSIDE, x -> x.sacks(1));
        refused("sacks(7)", Check.OUTSIDE, x -> x.sacks(7));
        refused("known falling", Check.OUTSIDE, x -> x.known(0, 2, 1));
        refused("loss(21)", Check.OUTSIDE, x -> x.loss(21));
        refused("toll(6, 5)", Check.OUTSIDE, x -> x.toll(6, 5));
        refused("toll(0, 100)", Check.OUTSIDE, x -> x.toll(0, 100));
        refused("weight(0, 100)", Check.OUTSIDE, x -> x.weight(0, 100));
        refused("say(32)", Check.OUTSIDE, x -> x.say(32));
        refused("say(127)", Check.OUTSIDE, x -> x.say(127));
    }

    private static void ofAFault() {
        refused("line", Check.NO, LastScale::line);
        refused("restore(0)", Check.STATE, x -> x.restore(0));
    }

    private static void ofFull() {
        refused("say('a')", Check.FULL, x -> x.say('a'));
        refused("say(32)", Check.OUTSIDE, x -> x.say(32));
        refused("line, a fault before full", Check.NO, LastScale::line);
        refused("say and line", Check.NO, x -> x.say('b') == Check.FULL ? x.line() : 0);
    }

    private static void ofCanNotBe() {
        ofAnyState();
        for (int end = 0; end < 2; end++) {
            int one = end;
            refused("follows(0, " + one + ")", Check.STATE, x -> x.follows(0, one));
            refused("follows(3, " + one + ")", Check.STATE, x -> x.follows(3, one));
            refused("open(" + one + ")", Check.STATE, x -> x.open(one));
            refused("rank(3, " + one + ")", Check.STATE, x -> x.rank(3, one));
            refused("pays(3, " + one + ")", Check.STATE, x -> x.pays(3, one));
            refused("pays(-1, " + one + ")", Check.STATE, x -> x.pays(-1, one));
            refused("more(3, " + one + ")", Check.STATE, x -> x.more(3, one));
            refused("more(-1, " + one + ")", Check.STATE, x -> x.more(-1, one));
        }
        refused("orders", Check.STATE, LastScale::orders);
        refused("restore(1)", Check.STATE, x -> x.restore(1));
    }

    private static void ofANewObject() {
        refused("line", Check.NO, LastScale::line);
        refused("strike", Check.NO, LastScale::strike);
        refused("saying(0, 0)", Check.UNKNOWN, x -> x.saying(0, 0));
        refused("saying(0, 5)", Check.UNKNOWN, x -> x.saying(0, 5));
        refused("restore(0)", Check.STATE, x -> x.restore(0));
        refused("restore(1)", Check.STATE, x -> x.restore(1));
        for (int lies = -1; lies < 6; lies++) {
            int one = lies;
            refused("more(" + one + ", 0) of six groups", Check.NO, x -> x.more(one, 0));
            refused("more(" + one + ", 1) of six groups", Check.NO, x -> x.more(one, 1));
            refused("more(" + one + ", 2) of six groups", Check.OUTSIDE, x -> x.more(one, 2));
        }
        refused("more(6, 2) of six groups", Check.UNKNOWN, x -> x.more(6, 2));
    }

    /** What was asked of a book that can not be leaves nothing behind for later. */
    private static void askingLeavesNoTrace() {
        LastScale x = Check.scale(3, "a+b", "a-b");
        asked(x);
        x.strike();
        Check.due("all after strike", asked(x), asked(Check.scale(3, "a+b")));
    }
}
