/** Promise 15 once more: every book of 2 to 4 sacks, and some of 5, held against the model. */
public final class PlansTest {
    public static void main(String[] args) {
        for (int sacks = 2; sacks <= 5; sacks++) {
            int books = (int) Math.pow(3, sacks * (sacks - 1) / 2);
            for (int book = 0; book < books; book += sacks == 5 ? 53 : 1) {
                plans(sacks, book);
            }
        }
        Check.end();
    }

    /** Each pair of sacks is not told of, heavier or lighter, by one digit to the base of 3. */
    private static void plans(int sacks, int book) {
        LastScale x = new LastScale();
        Model y = new Model();
        x.sacks(sacks);
        y.sacks(sacks);
        int rest = book;
        for (int sack = 1; sack < sacks; sack++) {
            for (int other = 0; other < sack; other++) {
                if (rest % 3 != 0) {
                    String line = (char) ('a' + sack) + (rest % 3 == 1 ? "+" : "-") + (char) ('a' + other);
                    Check.write(x, line);
                    y.pad = line;
                    y.line();
                }
                rest /= 3;
            }
        }
        for (int lies = -1; lies < sacks; lies++) {
            for (int what = 0; what < 2; what++) {
                String call = sacks + " sacks, book " + book + ": more(" + lies + ", " + what + ")";
                Check.due(call, x.more(lies, what), y.more(lies, what));
            }
        }
    }
}
