/** Promises 23 to 25: image, restore, told. */
public final class ImagesTest {
    public static void main(String[] args) {
        keepsAllButThePad();
        twoImages();
        keptAgain();
        imageIsACopy();
        told();
        Check.end();
    }

    private static LastScale filled() {
        LastScale x = Check.scale(4, "a+b-c", "d");
        x.toll(0, 1);
        x.toll(5, 2);
        x.loss(3);
        x.known(0, 4, 5);
        x.known(3, 6, 7);
        x.weight(0, 8);
        x.weight(3, 9);
        return x;
    }

    private static void change(LastScale x) {
        x.sacks(6);
        Check.write(x, "f=e-d+c-b+a");
        for (int i = 0; i < 6; i++) {
            x.toll(i, 90 + i);
            x.weight(i, 80 + i);
            x.known(i, 700 + i, 800 + i);
        }
        x.loss(20);
    }

    private static void keepsAllButThePad() {
        LastScale x = filled();
        String before = Check.seen(x);
        Check.say(x, "a+b");
        Check.due("image(0)", x.image(0), 1);
        x.wipe();
        change(x);
        Check.due("restore(0)", x.restore(0), 1);
        Check.due("all", Check.seen(x), before);
        Check.say(x, "c-");
        change(x);
        Check.say(x, "c-");
        Check.due("restore(0) again", x.restore(0), 1);
        Check.due("signs stay as they are", x.wipe(), 2);
        Check.due("all again", Check.seen(x), before);
        Check.due("follows(1, 0)", x.follows(1, 0), 1);
        Check.due("follows(2, 1)", x.follows(2, 1), 2);
    }

    private static void twoImages() {
        LastScale x = filled();
        String first = Check.seen(x);
        Check.due("restore(1) before", x.restore(1), Check.STATE);
        x.image(0);
        Check.due("restore(1) still", x.restore(1), Check.STATE);
        Check.due("nothing changed", Check.seen(x), first);
        change(x);
        String second = Check.seen(x);
        Check.due("image(1)", x.image(1), 1);
        Check.due("restore(0)", x.restore(0), 1);
        Check.due("first", Check.seen(x), first);
        Check.due("restore(1)", x.restore(1), 1);
        Check.due("second", Check.seen(x), second);
        Check.due("restore(0)", x.restore(0), 1);
        Check.due("first", Check.seen(x), first);
        int[] wrong = {-1, 2, Integer.MAX_VALUE, Integer.MIN_VALUE};
        for (int n : wrong) {
            Check.due("image(" + n + ")", x.image(n), Check.OUTSIDE);
            Check.due("restore(" + n + ")", x.restore(n), Check.OUTSIDE);
        }
    }

    private static void keptAgain() {
        LastScale x = filled();
        x.image(1);
        change(x);
        String second = Check.seen(x);
        Check.due("image(1) again", x.image(1), 1);
        x.sacks(2);
        x.restore(1);
        Check.due("the later one", Check.seen(x), second);
        Check.due("restore(0)", x.restore(0), Check.STATE);
    }

    private static void imageIsACopy() {
        LastScale x = filled();
        String before = Check.seen(x);
        x.image(0);
        for (int i = 0; i < 2; i++) {
            x.strike();
            x.strike();
            Check.write(x, "d=c=b=a");
            x.weight(0, 33);
            x.known(0, 1, 2);
            x.toll(0, 44);
            x.restore(0);
            Check.due("kept apart from what came after", Check.seen(x), before);
        }
    }

    private static void told() {
        LastScale x = filled();
        Check.say(x, "ab~");
        int[] whats = {0, 1, 2, 3, 10, 11, 15, 20, 21, 23, 30, 31, 32, 33, 40, 41, 43, 50, 51, 53};
        int[] wants = {3, 4, 2, 3, 1, 10, 2, 8, 50, 9, 1, 1, 1, 1, 4, 0, 6, 5, 999, 7};
        for (int i = 0; i < whats.length; i++) {
            Check.due("told(" + whats[i] + ")", x.told(whats[i]), wants[i]);
        }
        int[] outside = {-1, 4, 9, 16, 19, 24, 25, 26, 29, 34, 35, 36, 44, 45, 46, 54, 55, 56, 59, 60, 61, 65, 100,
            -10, -20, -6, Integer.MAX_VALUE, Integer.MIN_VALUE};
        for (int what : outside) {
            Check.due("told(" + what + ")", x.told(what), Check.OUTSIDE);
        }
        x.sacks(6);
        for (int row = 10; row <= 50; row += 10) {
            Check.due("told(" + (row + 5) + ") of six", x.told(row + 5) == Check.OUTSIDE ? 1 : 0, 0);
            Check.due("told(" + (row + 6) + ") of six", x.told(row + 6), Check.OUTSIDE);
        }
    }
}
