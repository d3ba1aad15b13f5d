import com.sun.management.ThreadMXBean;
import java.lang.management.ManagementFactory;
import java.util.function.IntConsumer;

/**
 * All calls of one run live in one room (600,000 objects, 7.3 million elements): what some 500
 * calls of a kind make is measured. None may make anything each time: only the first plan
 * for a number of groups and the first image of each number do.
 */
public final class RoomTest {
    private static final long LITTLE = 64 << 10, PLANS = 400 << 10;
    private static final String WORST_BOOK = "a+b+a+b+a+b+a+b+a+b+a+b+a";

    public static void main(String[] args) {
        if (!(ManagementFactory.getThreadMXBean() instanceof ThreadMXBean)) {
            System.out.println("this machine does not tell what is made");
            Check.end();
            return;
        }
        LastScale five = Check.scale(5);
        made("more of five groups", PLANS, 500, i -> five.more(i % 6 - 1, i % 2));
        LastScale fewer = Check.scale(6, "a+b-c", "d+e", "f=a");
        made("more of fewer groups", PLANS, 450, i -> moreOfFewerGroups(fewer, i));
        LastScale worst = Check.scale(6, WORST_BOOK);
        made("lies", LITTLE, 450, i -> worst.lies(i % 3));
        LastScale kept = Check.scale(6, WORST_BOOK);
        made("image and restore", LITTLE, 450, i -> imageOrRestore(kept, i));
        LastScale plain = Check.scale(6, "a+b-c=d+e-f");
        made("what follows", LITTLE, 95, i -> whatFollows(plain, i % 6));
        LastScale weighed = Check.scale(6, "a+b-c=d+e-f");
        made("spans and lines", LITTLE, 120, i -> spansAndLines(weighed, i % 6));
        LastScale written = Check.scale(6);
        made("lines", LITTLE, 100, i -> write(written, i));
        Check.end();
    }

    private static void made(String name, long most, int rounds, IntConsumer calls) {
        ThreadMXBean told = (ThreadMXBean) ManagementFactory.getThreadMXBean();
        long before = told.getCurrentThreadAllocatedBytes();
        for (int i = 0; i < rounds; i++) {
            calls.accept(i);
        }
        long made = told.getCurrentThreadAllocatedBytes() - before;
        Check.due("bytes made by " + name + ", " + made + ", are no more than " + most, made <= most ? 1 : 0, 1);
    }

    private static void moreOfFewerGroups(LastScale x, int i) {
        x.more(i % 7 - 1, i % 2);
        if (i == 100 || i == 200) {
            x.say('c');
            x.say('=');
            x.say(i == 100 ? 'd' : 'e');
            x.line();
        }
    }

    private static void imageOrRestore(LastScale x, int i) {
        if (i % 4 < 2) {
            x.image(i % 2);
        } else {
            x.restore(i % 2);
        }
    }

    private static void whatFollows(LastScale x, int sack) {
        x.follows(sack, 5 - sack);
        x.open(sack % 3);
        x.rank(sack, sack % 2);
        x.orders();
        x.pays(sack - 1, sack % 2);
    }

    private static void spansAndLines(LastScale x, int sack) {
        x.span(sack, sack % 2);
        x.leaves(304152);
        x.lineBy(sack % 2, sack / 3);
        x.told(50 + sack);
    }

    private static void write(LastScale x, int i) {
        x.say('a' + i % 6);
        x.fault();
        x.line();
        x.saying(i % 12, i % 5);
        x.strike();
    }
}
