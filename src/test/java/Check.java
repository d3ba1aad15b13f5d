import java.util.TreeSet;

/** What all tests share: counting wrong answers, and putting whole lines on the pad. */
final class Check {
    static final int NONE = -6, UNKNOWN = -1, OUTSIDE = -2, STATE = -3, FULL = -4, NO = -5;

    private static int wrong = 0;

    private Check() {
    }

    static void due(String call, long got, long want) {
        if (got != want) {
            wrong++;
            System.out.println(call + " answered " + got + ", due is " + want);
        }
    }

    static void due(String call, String got, String want) {
        if (!got.equals(want)) {
            wrong++;
            System.out.println(call + " answered " + got + ", due is " + want);
        }
    }

    /** Ends the test: with exit code 1 if an answer was wrong. */
    static void end() {
        System.out.println(wrong == 0 ? "all answers are as due" : wrong + " answers are not as due");
        if (wrong != 0) {
            System.exit(1);
        }
    }

    static void say(LastScale scale, String signs) {
        for (int i = 0; i < signs.length(); i++) {
            scale.say(signs.charAt(i));
        }
    }

    /** Says a line and writes it; what line() answers. */
    static int write(LastScale scale, String line) {
        scale.wipe();
        say(scale, line);
        return scale.line();
    }

    /** An object with so many sacks and these lines in its book. */
    static LastScale scale(int sacks, String... lines) {
        LastScale scale = new LastScale();
        scale.sacks(sacks);
        for (String line : lines) {
            if (write(scale, line) < 0) {
                due("line " + line, scale.line(), 0);
            }
        }
        return scale;
    }

    /**
     * Numbers that are not from first to last: those next to the ends, the widest, and those
     * that a shift, a byte, a char or a change of sign would take for one within.
     */
    static int[] notFrom(int first, int last) {
        TreeSet<Integer> all = new TreeSet<>();
        int[] steps = {1, 2, 10, 31, 32, 64, 100, 128, 256, 1 << 16, 1 << 30};
        for (int step : steps) {
            all.add(first - step);
            all.add(last + step);
            all.add(first + step);
            all.add(last - step);
        }
        for (int number = first; number <= last && number < first + 7; number++) {
            all.add(number ^ Integer.MIN_VALUE);
            all.add(~number);
            all.add(-number);
        }
        all.add(Integer.MIN_VALUE);
        all.add(Integer.MAX_VALUE);
        all.add(Integer.MAX_VALUE - 1);
        all.removeIf(number -> number >= first && number <= last);
        return all.stream().mapToInt(Integer::intValue).toArray();
    }

    /** All that is kept in an object, read without changing it; of its pad what is told of it. */
    static String seen(LastScale x) {
        StringBuilder all = new StringBuilder();
        for (int what = 0; what < 4; what++) {
            all.append(x.told(what)).append(' ');
        }
        for (int what = 10; what < 60; what += what % 10 == 5 ? 5 : 1) {
            all.append(x.told(what)).append(' ');
        }
        all.append('|').append(x.fault()).append('|');
        int sayings = x.told(2);
        for (int i = 0; i < sayings; i++) {
            for (int what = 0; what < 5; what++) {
                all.append(x.saying(i, what)).append(' ');
            }
        }
        return all.append(x.saying(sayings, 0)).toString();
    }
}
