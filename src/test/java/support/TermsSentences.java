/** "Terms", ahead of its numbered parts: what refusals and findings are, in which order they come, what they leave. */
final class TermsSentences {
    // six boats; 0 is up, 1 sided, 2 turned, 3 full; hand 3, of boat 1, can't
    private static final String CLUB = "sea 20 0;boat 30 1 3 20;boat 30 1 3 20;boat 30 1 3 0;boat 30 1 3 20;boat 9 9 9 9;boat 8 8 8 8;"
            + "hand 0 50 60;hand 1 60 60;hand 3 150 60;hand 1 70 1;";

    private TermsSentences() {
    }

    static void all() {
        Doc.terms(0);
        fromZero();
        cut();
        fractions();
        sets();
        badFirst();
        stateNext();
        fullNext();
        findingsLast();
        firstInTime();
        numbers();
        nothingChanges();
    }

    static OverInDinghy rich() {
        OverInDinghy x = Check.of(CLUB);
        x.tip(1);
        x.tip(2);
        x.tip(3);
        x.place(2, 2);
        x.go(7, 1);
        x.tip(3);
        x.place(2, 2);
        x.go(1, 1);
        Check.due("boat 0 is up", x.boat(0, 0), 0);
        Check.due("boat 1 is sided", x.boat(1, 0), 1);
        Check.due("boat 2 is turned", x.boat(2, 0), 2);
        Check.due("boat 3 is full", x.boat(3, 0), 4);
        Check.due("hand 3 can't", x.hand(3, 3), 0);
        Check.items(x, 0, 3, 1, 4, 1, 5, 9, 2, 6, 5, 3, 5, 8);
        x.row(1, 0, 4);
        x.row(2, 1, 4);
        x.image(0);
        x.ask(1, 0);
        Check.feed(x, "sea");
        return x;
    }

    private static void fromZero() {
        Doc.says("Numbers go from 0 on.");
        OverInDinghy x = Check.of("sea 5 5;boat 7 1 1 1;boat 9 2 1 1;hand 1 50 5;hand 0 60 6;");
        Check.due("boat 0 is the first", x.boat(0, 3), 20);
        Check.due("boat 1 is the second", x.boat(1, 3), 30);
        Check.due("there is no boat 2", x.boat(2, 3), Check.BAD);
        Check.due("hand 0 is the first", x.hand(0, 1), 50);
        Check.due("hand 1 is the second", x.hand(1, 1), 60);
        Check.due("there is no hand 2", x.hand(2, 1), Check.BAD);
        Check.due("row 0", x.row(0, 0, 1), 1);
        Check.due("item 0", x.set(0, 0, 7), 7);
        Check.due("one item: no item 1", x.set(0, 1, 7), Check.PLACE);
        x.ask(0, 0);
        Check.due("the first of the trace", x.trace(0), 10);
    }

    private static void cut() {
        Doc.says("All that is divided is cut towards 0,");
        // 27 times 11 by 10 is 29.7; 1000 by 18 is 55.55, half of 55 is 27.5
        OverInDinghy x = Check.of("sea 9 0;boat 11 3 0 20;hand 0 27 3;");
        x.tip(0);
        x.place(0, 2);
        Check.due("lever", x.boat(0, 4), 29);
        x.go(1, 1);
        Check.due("29 is not 30", x.boat(0, 0), 1);
        Check.due("cold", x.hand(0, 3), 1000 - 55 - 27);
    }

    private static void fractions() {
        Doc.says("but fractions, told as two numbers in lowest terms (0 is 0 by 1).");
        OverInDinghy x = new OverInDinghy();
        Check.due("50 of 100, above", x.over(1, 50, 0, 0), 1);
        Check.due("50 of 100, below", x.over(1, 50, 0, 1), 2);
        Check.due("0, above", x.over(7, 0, 0, 0), 0);
        Check.due("0, below", x.over(7, 0, 0, 1), 1);
        Check.due("1, above", x.over(7, 100, 0, 0), 1);
        Check.due("1, below", x.over(7, 100, 0, 1), 1);
        Check.due("37 of 100, above", x.over(1, 37, 0, 0), 37);
        Check.due("37 of 100, below", x.over(1, 37, 0, 1), 100);
    }

    private static void sets() {
        Doc.says("Sets are bits.");
        OverInDinghy x = Check.of("sea 5 0;boat 30 1 1 1;boat 1 1 1 1;hand 1 50 5;hand 0 60 6;hand 0 60 6;");
        Check.due("hands 1 and 2", x.rights(0, 0, -1, 2), 2 + 4);
        Check.items(x, 0, 1, 1, 1, 0);
        Check.due("boat 1 lacks", x.heads(0, 0), 2);
        Check.items(x, 0, 1, 0, 1, 0);
        Check.due("boats 0 and 1 lack", x.heads(0, 0), 1 + 2);
    }

    private static void badFirst() {
        Doc.says("Refusals are answers, the first of these that fits, but as told: BAD (a number is not as told; there is no such thing)");
        OverInDinghy x = rich();
        Check.due("place 4 of one who can't", x.place(3, 4), Check.BAD);
        Check.due("tip of no boat", x.tip(6), Check.BAD);
        Check.due("rights by a mast of 101, with one who can't", x.rights(1, 101, 3, -1), Check.BAD);
        Check.due("quickest by 2 of one that is up", x.quickest(0, 2), Check.BAD);
        Check.due("restore of 2 where 1 was not kept", x.restore(2), Check.BAD);
        Check.due("image of 2 without a club", new OverInDinghy().image(2), Check.BAD);
        Check.due("restore of -1 without one", new OverInDinghy().restore(-1), Check.BAD);
        Check.due("fewer than none of row 8", x.row(8, 0, -1), Check.BAD);
        Check.due("fewer than none of lane 3", x.row(0, 3, -1), Check.BAD);
        Check.due("copy to row 8 from one that is missing", x.copy(7, 0, 8, 0, 0), Check.BAD);
        Check.due("copy from row -1 to one that is missing", x.copy(-1, 0, 7, 0, 0), Check.BAD);
        Check.due("first by 3 of a row that is missing", x.first(7, 3, 1, 0), Check.BAD);
        Check.due("heads by 3 of a row that is missing", x.heads(7, 3), Check.BAD);
        Check.due("kind 6 of a boat", x.as(0, 6), Check.BAD);
    }

    private static void stateNext() {
        Doc.says("STATE (as told)");
        OverInDinghy none = new OverInDinghy();
        Check.due("go, ahead of BAD", none.go(0, 0), Check.STATE);
        Check.due("first, ahead of BAD", none.first(8, 0, 0, -2), Check.STATE);
        Check.due("first, ahead of NULL", none.first(0, 1, 1, 0), Check.STATE);
        Check.due("heads, ahead of BAD", none.heads(8, 3), Check.STATE);
        Check.due("heads, ahead of NULL", none.heads(0, 0), Check.STATE);
        Check.due("image", none.image(1), Check.STATE);
        Check.due("restore", none.restore(1), Check.STATE);
        OverInDinghy x = rich();
        Check.due("place", x.place(3, 1), Check.STATE);
        Check.due("tip", x.tip(1), Check.STATE);
        Check.due("rights", x.rights(1, 0, 3, 0), Check.STATE);
        Check.due("quickest", x.quickest(0, 0), Check.STATE);
    }

    private static void fullNext() {
        Doc.says("FULL (as told)");
        OverInDinghy x = new OverInDinghy();
        for (int i = 0; i < 50; i++) {
            x.feed(0, 8);
        }
        Check.due("BAD ahead of FULL", x.feed(0, 0), Check.BAD);
        Check.due("BAD ahead of FULL, above", x.feed(0, 9), Check.BAD);
        Check.due("FULL", x.feed(0, 1), Check.FULL);
    }

    private static void findingsLast() {
        Doc.says("then FINDINGS");
        OverInDinghy x = Check.of("sea 5 5;boat 1 1 1 1;boat 1 1 1 1;");
        x.row(0, 0, 1);
        x.set(0, 0, -1);
        Check.due("first: an item is BAD, but told to come behind PLACE", x.first(0, 1, 1, 0), Check.PLACE);
        Check.due("heads: an item is BAD, but told to come behind PLACE", x.heads(0, 0), Check.PLACE);
        Check.due("kind 5 of no boat is BAD", x.as(2, 5), Check.BAD);
        Check.due("kind 5 of one that is dry", x.as(1, 5), Check.KIND);
    }

    private static void firstInTime() {
        Doc.says(", of several the first in time:");
        OverInDinghy x = new OverInDinghy();
        x.row(0, 0, 2);
        x.row(1, 1, 2);
        Check.due("NULL ahead of STORE and PLACE", x.copy(0, 9, 2, 9, 9), Check.NULL);
        Check.due("NULL of the first", x.copy(2, 9, 1, 9, 9), Check.NULL);
        Check.due("NULL of both", x.copy(2, 0, 3, 0, 0), Check.NULL);
        Check.due("STORE ahead of PLACE", x.copy(0, 9, 1, 9, 9), Check.STORE);
        Check.due("NULL ahead of PLACE", x.set(5, -1, 0), Check.NULL);
    }

    private static void numbers() {
        Doc.says("NOT less 10 less 1 NULL (a ROW that is missing), 2 PLACE (no such place of a ROW), 3 KIND (a BOAT that is not that), "
                + "4 SIZE (fewer than none), 5 STORE (ROWS of two LANES); BAD, STATE, FULL are NOT less 1, 2, 3.");
        OverInDinghy x = Check.of("sea 5 5;boat 1 1 1 1;");
        long not = -9000000000000000000L;
        Check.due("NOT", OverInDinghy.NOT, not);
        Check.due("NONE", OverInDinghy.NONE, -1000000);
        Check.due("NULL", x.drop(0), not - 11);
        x.row(0, 0, 1);
        x.row(1, 1, 1);
        Check.due("PLACE", x.set(0, 1, 0), not - 12);
        Check.due("KIND", x.as(0, 2), not - 13);
        Check.due("SIZE", x.row(0, 0, -1), not - 14);
        Check.due("STORE", x.copy(0, 0, 1, 0, 1), not - 15);
        Check.due("BAD", x.airs(0), not - 1);
        Check.due("STATE", x.restore(0), not - 2);
        for (int i = 0; i < 50; i++) {
            x.feed(0, 8);
        }
        Check.due("FULL", x.feed(0, 8), not - 3);
    }

    /** All that calls can tell of a club, of the tape, of faults and the trace. */
    static String club(OverInDinghy x) {
        StringBuilder s = new StringBuilder();
        for (int what = 0; what < 8; what++) {
            s.append(x.count(what)).append(' ');
        }
        s.append(x.fault()).append(" trace");
        int begun = x.trace(0);
        for (int i = 1; i <= 16 && begun != Check.NONE; i++) {
            s.append(' ').append(begun);
            begun = x.trace(i);
        }
        for (int b = 0; b < x.count(1); b++) {
            s.append(" boat");
            for (int what = 0; what < 7; what++) {
                s.append(' ').append(x.boat(b, what));
            }
        }
        for (int h = 0; h < x.count(2); h++) {
            s.append(" hand");
            for (int what = 0; what < 4; what++) {
                s.append(' ').append(x.hand(h, what));
            }
        }
        return s.toString();
    }

    /** And of rows, but status(): the calls with a row that are made here change that. */
    static String all(OverInDinghy x) {
        StringBuilder s = new StringBuilder(club(x));
        for (int row = 0; row < 8; row++) {
            boolean there = x.copy(row, 0, row, 0, 0) == 0;
            s.append(" row");
            if (there) {
                int items = 0;
                for (int step = 32; step > 0; step /= 2) {
                    items += x.copy(row, 0, row, 0, items + step) >= 0 ? step : 0;
                }
                s.append(' ').append(items).append(' ').append(x.copy(row, 0, 0, 0, 0));
                for (int place = -1; place < 6; place++) {
                    s.append(' ').append(x.first(row, 1, 1, place));
                }
                s.append(' ').append(x.heads(row, 0)).append(' ').append(x.heads(row, 1));
            }
        }
        return s.toString();
    }

    private static void nothingChanges() {
        Doc.says("What is refused, or found, changes nothing but status().");
        OverInDinghy x = rich();
        String before = all(x);
        long[] refused = {
            x.row(8, 0, 1), x.row(0, 3, 1), x.row(0, 0, 41), x.row(0, 0, -1), x.row(7, 0, -1),
            x.set(8, 0, 1), x.set(7, 0, 1), x.set(0, 12, 1), x.set(0, -1, 1),
            x.copy(8, 0, 0, 0, 1), x.copy(7, 0, 0, 0, 1), x.copy(0, 0, 7, 0, 1), x.copy(0, 0, 1, 0, 1), x.copy(1, 0, 0, 0, 1),
            x.copy(0, 5, 0, 0, 8), x.copy(0, 0, 0, 5, 8), x.copy(0, 0, 0, 1, -1), x.drop(8), x.drop(7),
            x.feed(' ', 0), x.feed(' ', 9), x.place(4, 1), x.place(0, 4), x.place(3, 2), x.place(1, 0),
            x.tip(6), x.tip(1), x.tip(2), x.go(0, 1), x.go(61, 1), x.go(1, 0), x.go(1, 1000000),
            x.rights(1, 101, -1, 0), x.rights(1, 0, 3, 0), x.quickest(0, 0), x.quickest(1, 2), x.tries(0, 61),
            x.first(7, 1, 1, 0), x.first(1, 1, 1, 0), x.heads(7, 0), x.heads(1, 0), x.image(2), x.restore(2), x.restore(1),
            x.as(0, 5), x.as(6, 0), x.ask(6, 0), x.ask(0, 2), x.count(8)};
        for (int i = 0; i < refused.length; i++) {
            Check.holds("refusal " + i + ": " + refused[i], refused[i] <= Check.BAD);
        }
        Check.holds("all is as before", all(x).equals(before));
        Check.due("and the tape goes on", Check.read(x, " 5 5;boat 1 1 1 1;"), 1);
        Check.due("and so does the image", x.restore(0), 1);
        Check.due("as it was kept", x.boat(3, 0), 4);
        OverInDinghy y = Check.of("sea 5 5;boat 1 1 1 1;boat 1 1 1 1;");
        Check.items(y, 0, 1, 100, 10, 1);
        y.drop(1);
        before = all(y);
        y.drop(1);
        Check.due("first of an item that is BAD", y.first(0, 1, 1, 0), Check.BAD);
        Check.due("heads of an item that is BAD", y.heads(0, 0), Check.BAD);
        Check.due("status() stays by BAD", y.status(), 1);
        Check.due("a finding", y.set(0, 4, 1), Check.PLACE);
        Check.due("changes status()", y.status(), 2);
        Check.holds("and nothing else", all(y).equals(before));
    }
}
