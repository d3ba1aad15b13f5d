/** Refused calls change nothing, and asking changes nothing. */
public final class RefusedTest {
    public static void main(String[] args) {
        LastScale x = Check.scale(4, "a+b-c", "d=a");
        x.known(1, 20, 300);
        x.loss(4);
        Check.say(x, "a+");
        String before = Check.seen(x);
        refusals(x);
        Check.due("after refusals", Check.seen(x), before);
        questions(x);
        Check.due("after questions", Check.seen(x), before);
        canNotBe();
        Check.end();
    }

    private static void refusals(LastScale x) {
        refused("sacks", x.sacks(1));
        refused("sacks", x.sacks(7));
        refused("say", x.say(32));
        refused("line", x.line());
        refused("saying", x.saying(3, 0));
        refused("follows", x.follows(4, 0));
        refused("rank", x.rank(4, 0));
        refused("toll", x.toll(6, 3));
        refused("toll", x.toll(1, 100));
        refused("pays", x.pays(4, 0));
        refused("more", x.more(4, 0));
        refused("known", x.known(4, 1, 2));
        refused("known", x.known(0, 2, 1));
        refused("known", x.known(0, 1, 1000));
        refused("loss", x.loss(21));
        refused("weight", x.weight(4, 1));
        refused("weight", x.weight(0, 100));
        refused("leaves", x.leaves(0));
        refused("lineBy", x.lineBy(0, 2));
        refused("image", x.image(2));
        refused("restore", x.restore(0));
        refused("told", x.told(24));
    }

    private static void refused(String call, int got) {
        Check.due(call + " refused", got < 0 && got > Check.NONE ? 1 : 0, 1);
    }

    private static void questions(LastScale x) {
        for (int sack = 0; sack < 4; sack++) {
            x.follows(sack, 0);
            x.rank(sack, 0);
            x.pays(sack, 1);
            x.more(sack, 0);
            x.more(sack, 1);
            x.span(sack, 0);
        }
        for (int what = 0; what < 3; what++) {
            x.open(what);
            x.lies(what);
        }
        x.fault();
        x.orders();
        x.leaves(3120);
        x.lineBy(0, 0);
        x.lineBy(1, 1);
        x.image(0);
    }

    /** What was asked of a book that can not be leaves no trace for later. */
    private static void canNotBe() {
        LastScale x = Check.scale(3, "a+b", "a-b");
        x.lies(0);
        x.follows(0, 1);
        x.strike();
        Check.due("follows(1, 0)", x.follows(1, 0), 1);
        Check.due("orders()", x.orders(), 3);
        Check.due("more(0, 0)", x.more(0, 0), Check.scale(3, "a+b").more(0, 0));
    }
}
