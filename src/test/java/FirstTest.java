import java.util.Random;

/** Promise 20: first. */
public final class FirstTest {
    public static void main(String[] args) {
        refuses();
        one();
        two();
        allOrders();
        Check.end();
    }

    private static OverInDinghy boats(int n) {
        StringBuilder text = new StringBuilder("sea 1 1;");
        for (int b = 0; b < n; b++) {
            text.append("boat 1 1 1 1;");
        }
        return Check.of(text.toString());
    }

    private static void refuses() {
        OverInDinghy x = new OverInDinghy();
        Check.due("20: STATE ahead of BAD", x.first(9, 9, 99, -9), Check.STATE);
        x = boats(3);
        int[][] bad = {{-1, 1, 1, 0}, {8, 1, 1, 0}, {0, 0, 1, 0}, {0, 3, 1, 0}, {0, 1, 0, 0}, {0, 1, 21, 0}, {0, 1, 1, -2}};
        for (int[] b : bad) {
            Check.due("20: BAD " + java.util.Arrays.toString(b), x.first(b[0], b[1], b[2], b[3]), Check.BAD);
        }
        Check.due("20: missing", x.first(0, 1, 1, 0), Check.NULL);
        Check.items(x, 0, 100, 1);
        Check.due("20: too few, ahead of an item", x.first(0, 1, 1, 0), Check.PLACE);
        Check.items(x, 0, 1, 100, 1);
        Check.due("20: 100", x.first(0, 1, 1, 0), Check.BAD);
        Check.items(x, 0, 100, 1, 1);
        Check.due("20: the first item", x.first(0, 1, 1, 0), Check.BAD);
        Check.items(x, 0, 1, -1, 1);
        Check.due("20: -1", x.first(0, 1, 1, 7), Check.BAD);
        Check.items(x, 0, 1, 99, 0, 500);
        Check.due("20: what is behind does not matter", x.first(0, 1, 1, 0), 1);
        Check.due("20: not so many", x.first(0, 1, 1, 3), Check.NONE);
        Check.due("20: far from so many", x.first(0, 2, 20, Integer.MAX_VALUE), Check.NONE);
    }

    private static void order(OverInDinghy x, int r, int... boats) {
        for (int i = 0; i < boats.length; i++) {
            Check.due("20: place " + i, x.first(0, r, 3, i), boats[i]);
        }
    }

    private static void one() {
        OverInDinghy x = boats(4);
        Check.items(x, 0, 10, 40, 10, 30);
        Check.due("20: waited", x.first(0, 1, 3, -1), 40 * 3 + 30 * 6 + 10 * 9 + 10 * 12);
        order(x, 1, 1, 3, 0, 2);
        Check.items(x, 0, 0, 0, 0, 0);
        Check.due("20: nothing", x.first(0, 1, 3, -1), 0);
        order(x, 1, 0, 1, 2, 3);
    }

    private static void two() {
        OverInDinghy x = boats(5);
        Check.items(x, 0, 1, 5, 5, 9, 5);
        // 9 and 5 at once, then 5 and 5, then 1
        Check.due("20: waited", x.first(0, 2, 3, -1), 14 * 3 + 10 * 6 + 9);
        order(x, 2, 1, 3, 2, 4, 0);
        Check.items(x, 0, 9, 8, 7, 6, 5);
        order(x, 2, 0, 1, 2, 3, 4);
        Check.items(x, 0, 5, 6, 7, 8, 9);
        order(x, 2, 3, 4, 1, 2, 0);
    }

    private static void allOrders() {
        Random random = new Random(20);
        for (int n = 0; n < 400; n++) {
            int boats = 1 + n % 6;
            OverInDinghy x = boats(boats);
            Model y = new Model();
            String text = "sea 1 1;" + "boat 1 1 1 1;".repeat(boats);
            for (int i = 0; i < text.length(); i++) {
                y.feed(text.charAt(i), 1);
            }
            y.club();
            y.row(0, 2, boats);
            x.row(0, 2, boats);
            int most = 1 + random.nextInt(99);
            for (int i = 0; i < boats; i++) {
                int odds = random.nextInt(n % 2 == 0 ? 4 : most + 1);
                x.set(0, i, odds);
                y.set(0, i, odds);
            }
            int m = 1 + random.nextInt(20);
            for (int r = 1; r <= 2; r++) {
                for (int place = -1; place <= boats; place++) {
                    Check.due("20: all orders", x.first(0, r, m, place), y.first(0, r, m, place));
                }
            }
        }
    }
}
