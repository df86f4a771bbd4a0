/** Promises 24 and 25: image, restore. */
public final class ImageTest {
    private static final String ONE = "sea 3 7 mud;boat 11 5 4 6;boat 12 6 3 5;hand 0 60 9;hand 1 70 8;hand 0 80 7;";
    private static final String OTHER = "sea 20 12;boat 30 1 9 20;boat 1 30 0 0;boat 2 2 2 2;hand 2 150 60;";

    public static void main(String[] args) {
        refuses();
        keepsAll();
        keepsWater();
        keepsTwo();
        leavesTheRest();
        Check.end();
    }

    private static void refuses() {
        OverInDinghy x = new OverInDinghy();
        Check.due("24: -1", x.image(-1), Check.BAD);
        Check.due("24: 2", x.image(2), Check.BAD);
        Check.due("24: no club", x.image(0), Check.STATE);
        Check.due("25: -1", x.restore(-1), Check.BAD);
        Check.due("25: 2", x.restore(2), Check.BAD);
        Check.due("25: none", x.restore(0), Check.STATE);
        Check.read(x, ONE);
        Check.due("25: none yet", x.restore(0), Check.STATE);
        Check.due("24: kept", x.image(0), 1);
        Check.due("25: not the other", x.restore(1), Check.STATE);
        Check.due("25: restored", x.restore(0), 1);
    }

    /** All that tells how a club is, in one text. */
    private static String all(OverInDinghy x) {
        StringBuilder s = new StringBuilder();
        for (int what = 1; what < 8; what++) {
            s.append(what == 4 ? 0 : x.count(what)).append(' ');
        }
        for (int b = 0; b < x.count(1); b++) {
            for (int what = 0; what < 7; what++) {
                s.append(x.boat(b, what)).append(' ');
            }
            s.append(x.lightest(b)).append(' ').append(x.round(b)).append(' ').append(x.quickest(b, 0)).append(' ');
        }
        for (int h = 0; h < x.count(2); h++) {
            for (int what = 0; what < 4; what++) {
                s.append(x.hand(h, what)).append(' ');
            }
            s.append(x.tries(h, 1)).append(' ');
        }
        return s.toString();
    }

    private static void keepsAll() {
        OverInDinghy x = Check.of(ONE);
        x.tip(0);
        x.place(2, 3);
        x.go(3, 5);
        String kept = all(x);
        x.image(1);
        x.go(9, 4);
        x.place(1, 1);
        String later = all(x);
        Check.holds("25: it went on", !kept.equals(later));
        Check.due("25: restore", x.restore(1), 1);
        Check.holds("25: as kept", all(x).equals(kept));
        x.go(9, 4);
        x.place(1, 1);
        Check.holds("25: goes on as before", all(x).equals(later));
        x.restore(1);
        Check.holds("25: kept still", all(x).equals(kept));
        Check.read(x, OTHER);
        x.go(4, 4);
        x.restore(1);
        Check.holds("25: the club, too", all(x).equals(kept));
        x.go(9, 4);
        x.place(1, 1);
        Check.holds("25: its sea, too", all(x).equals(later));
    }

    private static void keepsWater() {
        OverInDinghy x = Check.of("sea 20 0;boat 30 1 3 20;hand 0 150 60;");
        x.tip(0);
        x.place(0, 2);
        x.go(1, 1);
        x.image(0);
        x.go(2, 1);
        Check.due("11: bailed", x.boat(0, 2), 36);
        x.restore(0);
        Check.due("25: its water", x.boat(0, 2), 52);
        Check.due("25: full", x.boat(0, 0), 4);
    }

    private static void keepsTwo() {
        OverInDinghy x = Check.of(ONE);
        x.image(0);
        String first = all(x);
        Check.read(x, OTHER);
        x.tip(0);
        x.image(1);
        String second = all(x);
        x.restore(0);
        Check.holds("25: the first", all(x).equals(first));
        x.restore(1);
        Check.holds("25: the second", all(x).equals(second));
        x.image(0);
        x.restore(0);
        Check.holds("24: in place of the first", all(x).equals(second));
    }

    private static void leavesTheRest() {
        OverInDinghy x = Check.of(ONE);
        x.image(0);
        Check.read(x, "sea 99");
        x.row(0, 0, 3);
        x.set(1, 0, 0);
        x.feed(5, 3);
        x.tip(0);
        x.ask(0, 1);
        x.restore(0);
        Check.due("25: rows stay", x.count(0), 1);
        Check.due("25: the tape stays", x.count(4), 3);
        Check.due("25: the fault stays", x.fault(), 2);
        Check.due("25: the trace stays", x.trace(0), 21);
        Check.due("25: the finding stays", x.status(), 1);
    }
}
