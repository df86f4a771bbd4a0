/** Promises 26 to 30: kind, as, ask, trace, count. */
public final class AskTest {
    // boat 0 dry, 1 sided, 2 turned, 3 stuck, 4 full: 2 is pulled free by her four hands first
    private static final String TEXT = "sea 30 0 mud;boat 30 1 1 20;boat 30 1 1 13;boat 30 1 1 0;boat 30 1 1 0;boat 30 1 2 20;"
            + "hand 2 150 60;hand 4 30 60;hand 1 50 1;hand 1 50 60;";

    public static void main(String[] args) {
        refuses();
        OverInDinghy x = five();
        kinds(x);
        asked(x);
        traceStays(x);
        counts(x);
        Check.end();
    }

    private static OverInDinghy five() {
        OverInDinghy x = Check.of(TEXT);
        x.tip(1);
        x.tip(2);
        x.tip(3);
        x.tip(4);
        x.go(5, 1);
        x.place(0, 2);
        x.place(1, 2);
        x.go(1, 1);
        return x;
    }

    private static void refuses() {
        OverInDinghy x = new OverInDinghy();
        Check.due("26: no club", x.kind(0), Check.BAD);
        Check.due("27: no club", x.as(0, 0), Check.BAD);
        Check.due("28: no club", x.ask(0, 0), Check.BAD);
        Check.read(x, "sea 1 1;boat 1 1 1 1;");
        Check.due("26: -1", x.kind(-1), Check.BAD);
        Check.due("26: 1", x.kind(1), Check.BAD);
        Check.due("27: boat -1", x.as(-1, 0), Check.BAD);
        Check.due("27: boat 1", x.as(1, 0), Check.BAD);
        Check.due("27: kind -1", x.as(0, -1), Check.BAD);
        Check.due("27: kind 6", x.as(0, 6), Check.BAD);
        Check.due("28: boat -1", x.ask(-1, 0), Check.BAD);
        Check.due("28: boat 1", x.ask(1, 0), Check.BAD);
        Check.due("28: what -1", x.ask(0, -1), Check.BAD);
        Check.due("28: what 2", x.ask(0, 2), Check.BAD);
        Check.due("30: -1", x.count(-1), Check.BAD);
        Check.due("30: 8", x.count(8), Check.BAD);
    }

    private static void kinds(OverInDinghy x) {
        // need of the stuck one 110: three times 330, lever 450: free; twice 220: over on her side next
        int[] kinds = {1, 2, 3, 4, 5};
        int[] are = {1 + 2, 1 + 4, 1 + 4 + 8, 1 + 4 + 8 + 16, 1 + 32};
        for (int b = 0; b < 5; b++) {
            Check.due("26: kind of " + b, x.kind(b), kinds[b]);
            for (int kind = 0; kind < 6; kind++) {
                boolean is = (are[b] >> kind & 1) == 1;
                Check.due("27: " + b + " as " + kind, x.as(b, kind), is ? b : Check.KIND);
                Check.due("31: its status", x.status(), is ? 0 : 3);
            }
        }
    }

    private static void answers(OverInDinghy x, int boat, int what, long answer, int... trace) {
        Check.due("28: " + boat + " " + what, x.ask(boat, what), answer);
        for (int i = 0; i < trace.length; i++) {
            Check.due("29: " + i, x.trace(i), trace[i]);
        }
        for (int i = trace.length; i < 20; i++) {
            Check.due("29: no more", x.trace(i), Check.NONE);
        }
        Check.due("29: -1", x.trace(-1), Check.NONE);
        Check.due("29: least", x.trace(Integer.MIN_VALUE), Check.NONE);
    }

    private static void asked(OverInDinghy x) {
        answers(x, 0, 0, 0, 10);
        answers(x, 0, 1, 0, 23, 20, 10);
        // mast 42
        answers(x, 1, 0, 43, 11, 10, 21, 20);
        answers(x, 1, 1, 43, 21, 20);
        // mast 100
        answers(x, 2, 0, 204, 12, 11, 10, 21, 20);
        answers(x, 2, 1, 102, 21, 20);
        answers(x, 3, 0, 2 * (3 + 100 - 500) + 1000, 14, 12, 11, 10, 22, 21, 20);
        answers(x, 3, 1, 3 + 100 - 500, 22, 21, 20);
        // water 70 less 12
        answers(x, 4, 0, -58, 13, 10);
        answers(x, 4, 1, 4 - 58, 24, 20, 13, 10);
    }

    private static void traceStays(OverInDinghy x) {
        x.ask(3, 1);
        x.ask(9, 0);
        x.ask(0, 2);
        x.kind(0);
        x.as(3, 4);
        Check.due("29: only an ask that is answered empties it", x.trace(2), 20);
        x.ask(0, 0);
        Check.due("29: empty ahead of it", x.trace(1), Check.NONE);
    }

    private static void counts(OverInDinghy x) {
        x.row(2, 0, 0);
        x.row(5, 0, 4);
        x.feed(1, 7);
        long[] due = {2, 5, 4, 6, 7, 0, 3, 0};
        for (int what = 0; what < 8; what++) {
            Check.due("30: " + what, x.count(what), due[what]);
        }
        x.go(1, 1);
        Check.due("30: one can't", x.count(5), 1);
        Check.due("30: a tick more", x.count(3), 7);
        Check.due("2 is on her side", x.kind(2), 2);
        Check.due("30: still three", x.count(6), 3);
        x.tip(0);
        Check.due("30: and the first", x.count(6), 4);
        x.club();
        Check.read(x, "sea 1 40;boat 1 1 1 1;hand 0 20 1;");
        Check.due("30: wind", x.count(7), 40);
    }
}
