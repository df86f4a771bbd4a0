/** Promises 14 to 19 and 21 to 23: rights, lightest, round, quickest, tries, airs, over, staysIn, heads. */
public final class ForetoldTest {
    public static void main(String[] args) {
        rights();
        rightsRefuses();
        lightest();
        round();
        quickest();
        quickestRefuses();
        quickestAll();
        tries();
        airs();
        over();
        staysIn();
        heads();
        Check.end();
    }

    private static void sets(OverInDinghy x, int boat, int m, int bow, long... sets) {
        String call = "14: rights(" + boat + ", " + m + ", " + bow + ", ";
        Check.due(call + "-1)", x.rights(boat, m, bow, -1), sets.length);
        for (int i = 0; i < sets.length; i++) {
            Check.due(call + i + ")", x.rights(boat, m, bow, i), sets[i]);
        }
        Check.due(call + sets.length + ")", x.rights(boat, m, bow, sets.length), Check.NONE);
        Check.due(call + "far)", x.rights(boat, m, bow, Integer.MAX_VALUE), Check.NONE);
    }

    private static void rights() {
        // hands 0, 2, 3 are of boat 0: 50, 60, 100; need 40 and mast and 20
        OverInDinghy x = Check.of("sea 20 10;boat 10 4 0 0;boat 10 1 0 0;hand 0 50 1;hand 1 50 60;hand 0 60 60;hand 0 100 60;");
        sets(x, 0, 0, -1, 4, 5, 8, 9, 12, 13);
        sets(x, 0, 1, -1, 5, 8, 9, 12, 13);
        sets(x, 0, 50, -1, 5, 9, 12, 13);
        sets(x, 0, 100, -1, 12, 13);
        sets(x, 0, 0, 2, 1, 8, 9);
        sets(x, 0, 10, 2, 1, 8, 9);
        sets(x, 0, 11, 2, 8, 9);
        sets(x, 0, 100, 3);
        sets(x, 1, 20, -1, 2);
        sets(x, 1, 21, -1);
        sets(x, 1, 0, 1);
        OverInDinghy four = Check.of("sea 20 0;boat 30 1 0 0;hand 0 50 1;hand 0 50 60;hand 0 60 60;hand 0 100 60;");
        sets(four, 0, 0, -1, 1, 2, 3, 4, 5, 6, 7, 8, 9, 10, 11, 12, 13, 14, 15);
        sets(four, 0, 0, 1, 1, 4, 5, 8, 9, 12, 13);
        // where they are now does not matter
        x.tip(0);
        x.place(3, 3);
        x.place(0, 2);
        sets(x, 0, 50, -1, 5, 9, 12, 13);
        x.go(7, 2);
        Check.due("14: he can't", x.hand(0, 3), 0);
        sets(x, 0, 0, -1, 4, 8, 12);
        Check.due("14: he can't be at the bow", x.rights(0, 0, 0, -1), Check.STATE);
        Check.due("14: BAD ahead of STATE", x.rights(0, 101, 0, -1), Check.BAD);
        Check.due("14: BAD i ahead of STATE", x.rights(0, 0, 0, -2), Check.BAD);
    }

    private static void rightsRefuses() {
        OverInDinghy x = Check.of("sea 20 10;boat 10 4 0 0;boat 10 1 0 0;hand 0 50 1;hand 1 50 60;");
        Check.due("14: boat -1", x.rights(-1, 0, -1, 0), Check.BAD);
        Check.due("14: boat 2", x.rights(2, 0, -1, 0), Check.BAD);
        Check.due("14: m -1", x.rights(0, -1, -1, 0), Check.BAD);
        Check.due("14: m 101", x.rights(0, 101, -1, 0), Check.BAD);
        Check.due("14: bow -2", x.rights(0, 0, -2, 0), Check.BAD);
        Check.due("14: bow of the other boat", x.rights(0, 0, 1, 0), Check.BAD);
        Check.due("14: bow of none", x.rights(0, 0, 2, 0), Check.BAD);
        Check.due("14: i -2", x.rights(0, 0, -1, -2), Check.BAD);
    }

    private static void lightest() {
        Check.due("15: no club", new OverInDinghy().lightest(0), Check.BAD);
        OverInDinghy x = Check.of("sea 20 10;boat 10 13 0 0;boat 30 1 0 0;boat 7 3 0 0;boat 10 14 0 0;boat 15 1 0 0;");
        Check.due("15: -1", x.lightest(-1), Check.BAD);
        Check.due("15: 5", x.lightest(5), Check.BAD);
        Check.due("15: 150 is enough", x.lightest(0), 150);
        Check.due("15: 20 is the least", x.lightest(1), 20);
        // 72 times 7 is 504, by 10 is 50
        Check.due("15: cut", x.lightest(2), 72);
        Check.due("15: nobody", x.lightest(3), Check.NONE);
        Check.due("15: 20 is just enough", x.lightest(4), 20);
        x.tip(0);
        x.go(3, 1);
        Check.due("15: mast 0 whatever it is", x.lightest(0), 150);
        // 150 times 20 by 10 is 300, of 302
        Check.read(x, "sea 20 1;boat 20 30 0 0;");
        Check.due("15: 151 would be enough", x.lightest(0), Check.NONE);
    }

    private static void round() {
        Check.due("16: no club", new OverInDinghy().round(0), Check.BAD);
        OverInDinghy x = Check.of("sea 20 0 mud;boat 1 1 0 0;boat 1 1 0 20;boat 1 1 0 19;boat 1 1 0 13;boat 1 1 0 10;boat 1 1 0 1;");
        long[] due = {5, Check.NONE, 100, 15, 10, 6};
        for (int b = 0; b < 6; b++) {
            Check.due("16: " + b, x.round(b), due[b]);
        }
        Check.due("16: -1", x.round(-1), Check.BAD);
        Check.due("16: 6", x.round(6), Check.BAD);
    }

    private static void quick(OverInDinghy x, int boat, long ticks, long places) {
        Check.due("17: ticks", x.quickest(boat, 0), ticks);
        Check.due("17: places", x.quickest(boat, 1), places);
    }

    private static void quickest() {
        // need 20, alone each is enough, both bail 10 and 5 of 40 from the second tick on
        OverInDinghy x = Check.of("sea 20 0;boat 10 2 5 0;hand 0 100 60;hand 0 100 60;");
        x.tip(0);
        quick(x, 0, 4, 2);
        Check.due("17: nothing changes", x.boat(0, 0), 1);
        Check.due("17: nor the hands", x.hand(0, 2), 1);
        Check.due("17: nor the cold", x.hand(0, 3), 1000);
        Check.due("17: nor the ticks", x.count(3), 0);
        // wind: 20 more are needed if nobody is at the bow: one on the board, one at the bow
        x = Check.of("sea 20 20;boat 10 2 5 0;hand 0 25 60;hand 0 20 60;");
        x.tip(0);
        quick(x, 0, 4, 2 * 3 + 5);
        // only the first can lift her against the wind
        x = Check.of("sea 20 20;boat 10 2 5 0;hand 0 60 60;hand 0 20 60;");
        x.tip(0);
        quick(x, 0, 4, 8);
        // too heavy for both, but a third is on the board already
        x = Check.of("sea 20 0;boat 10 9 9 0;hand 0 20 60;hand 0 20 60;hand 0 90 60;");
        x.tip(0);
        quick(x, 0, Check.NONE, Check.NONE);
        x.place(2, 2);
        quick(x, 0, 2, 0);
        // two who can bail: three in her bail 15 and 9 of 16
        x.place(2, 1);
        quick(x, 0, Check.NONE, Check.NONE);
        // nobody bails but air of 1: 64 ticks are too many; one who comes in makes 6 a tick
        x = Check.of("sea 20 0;boat 10 9 1 0;hand 0 20 1;hand 0 20 1;hand 0 90 60;");
        x.tip(0);
        x.place(2, 2);
        // three: 16 a tick: 64 in 4 ticks: behind 5
        quick(x, 0, 5, 0);
    }

    private static void quickestRefuses() {
        Check.due("17: no club", new OverInDinghy().quickest(0, 0), Check.BAD);
        OverInDinghy x = Check.of("sea 20 0;boat 10 2 5 0;boat 10 2 5 0;hand 0 100 1;hand 0 100 60;hand 1 50 50;");
        Check.due("17: -1", x.quickest(-1, 0), Check.BAD);
        Check.due("17: 2", x.quickest(2, 0), Check.BAD);
        Check.due("17: what -1", x.quickest(0, -1), Check.BAD);
        Check.due("17: what 2", x.quickest(0, 2), Check.BAD);
        Check.due("17: up", x.quickest(0, 0), Check.STATE);
        Check.due("17: BAD ahead of STATE", x.quickest(0, 2), Check.BAD);
        x.tip(1);
        quick(x, 1, Check.NONE, Check.NONE);
        x.tip(0);
        x.place(1, 2);
        x.go(1, 1);
        Check.due("17: full", x.quickest(0, 0), Check.STATE);
        x.tip(0);
        x.place(0, 3);
        x.go(4, 1);
        Check.due("17: sided", x.boat(0, 0), 1);
        // one is enough; the other's grip ends behind the second tick: 15, then 10 a tick of 40
        quick(x, 0, 5, 2);
        x.go(1, 1);
        Check.due("17: turned", x.quickest(0, 0), Check.STATE);
        // one of two can't
        x = Check.of("sea 20 0;boat 10 2 5 20;hand 0 100 1;hand 0 100 60;");
        x.tip(0);
        x.go(7, 1);
        quick(x, 0, Check.NONE, Check.NONE);
        // twelve hands, none of them hers
        StringBuilder text = new StringBuilder("sea 20 0;boat 9 1 0 9;boat 9 1 0 9;boat 9 1 0 9;boat 9 1 0 9;");
        for (int h = 0; h < 12; h++) {
            text.append("hand ").append(h % 3).append(" 150 60;");
        }
        x = Check.of(text.toString());
        x.tip(3);
        quick(x, 3, Check.NONE, Check.NONE);
        // who can't is passed over: the next two are asked
        x = Check.of("sea 20 0;boat 10 2 5 20;hand 0 100 1;hand 0 20 60;hand 0 20 60;");
        x.tip(0);
        x.go(7, 1);
        quick(x, 0, 4, 2);
    }

    /** Many boats and crews, against all rows without a short cut. */
    private static void quickestAll() {
        java.util.Random random = new java.util.Random(17);
        for (int n = 0; n < 300; n++) {
            StringBuilder text = new StringBuilder("sea ").append(random.nextInt(31)).append(' ').append(random.nextInt(12));
            text.append(random.nextBoolean() ? " mud;" : ";").append("boat ").append(5 + random.nextInt(26)).append(' ');
            text.append(1 + random.nextInt(12)).append(' ').append(random.nextInt(10)).append(' ').append(random.nextInt(21)).append(';');
            int crew = 2 + random.nextInt(3);
            for (int h = 0; h < crew; h++) {
                text.append("hand 0 ").append(20 + random.nextInt(131)).append(' ');
                text.append(1 + random.nextInt(random.nextBoolean() ? 2 : 60)).append(';');
            }
            OverInDinghy x = Check.of(text.toString());
            Model y = new Model();
            for (int i = 0; i < text.length(); i++) {
                y.feed(text.charAt(i), 1);
            }
            y.club();
            x.tip(0);
            y.tip(0);
            for (int h = 0; h < crew; h++) {
                int place = 1 + random.nextInt(3);
                x.place(h, place);
                y.place(h, place);
            }
            int ticks = 1 + random.nextInt(6);
            if (random.nextBoolean()) {
                x.go(ticks, n + 1);
                y.go(ticks, n + 1);
            }
            Check.due("17: ticks of " + text, x.quickest(0, 0), y.quickest(0, 0));
            Check.due("17: places of " + text, x.quickest(0, 1), y.quickest(0, 1));
        }
    }

    private static void tries() {
        Check.due("18: no club", new OverInDinghy().tries(0, 1), Check.BAD);
        // 1000 by 6 is 166; 1000 by 360 is 2
        OverInDinghy x = Check.of("sea 10 0;boat 1 1 0 20;hand 0 50 1;hand 0 50 60;hand 0 50 5;");
        Check.due("18: -1", x.tries(-1, 1), Check.BAD);
        Check.due("18: 3", x.tries(3, 1), Check.BAD);
        Check.due("18: t 0", x.tries(0, 0), Check.BAD);
        Check.due("18: t 61", x.tries(0, 61), Check.BAD);
        Check.due("18: 166", x.tries(0, 1), 7);
        Check.due("18: 60 times 166", x.tries(0, 60), 1);
        Check.due("18: 2", x.tries(1, 1), 500);
        Check.due("18: 120", x.tries(1, 60), 9);
        Check.due("18: 10 by 2", x.tries(1, 10), 50);
        Check.due("18: 33", x.tries(2, 1), 31);
        x.place(0, 1);
        x.go(6, 1);
        Check.due("18: 4 are left", x.tries(0, 1), 1);
        x.go(1, 1);
        Check.due("18: none is left", x.tries(0, 1), 0);
        Check.read(x, "sea 9 0;boat 1 1 0 20;hand 0 50 1;");
        Check.due("18: 166 and 83", x.tries(0, 1), 5);
    }

    private static void airs() {
        OverInDinghy x = new OverInDinghy();
        Check.due("19: 0", x.airs(0), Check.BAD);
        Check.due("19: 5", x.airs(5), Check.BAD);
        Check.due("19: 1", x.airs(1), 447);
        // by two: 7, 6, 5, 4, 4, 3, 3, 2, 2, 1
        Check.due("19: 2", x.airs(2), 1 + 2 + 4 + 8 + 32 + 128 + 512);
        // by three: 5, 4, 4, 3, 3, 2, 2, 2, 1, 1
        Check.due("19: 3", x.airs(3), 1 + 2 + 8 + 32 + 256);
        Check.due("19: 4", x.airs(4), 277);
    }

    private static void fraction(OverInDinghy x, int n, int p, int r, long above, long below) {
        Check.due("21: above " + n + " " + p + " " + r, x.over(n, p, r, 0), above);
        Check.due("21: below " + n + " " + p + " " + r, x.over(n, p, r, 1), below);
    }

    private static void over() {
        OverInDinghy x = new OverInDinghy();
        int[][] bad = {{0, 1, 0, 0}, {8, 1, 0, 0}, {1, -1, 0, 0}, {1, 101, 0, 0}, {1, 1, -1, 0}, {1, 1, 8, 0}, {1, 1, 0, -1}, {1, 1, 0, 2}};
        for (int[] b : bad) {
            Check.due("21: BAD " + java.util.Arrays.toString(b), x.over(b[0], b[1], b[2], b[3]), Check.BAD);
        }
        fraction(x, 1, 30, 0, 3, 10);
        fraction(x, 2, 50, 0, 3, 4);
        fraction(x, 2, 50, 1, 1, 4);
        fraction(x, 2, 50, 2, 0, 1);
        fraction(x, 7, 100, 6, 1, 1);
        fraction(x, 7, 100, 7, 0, 1);
        fraction(x, 7, 0, 0, 0, 1);
        fraction(x, 7, 1, 6, 1, 100000000000000L);
        fraction(x, 7, 99, 6, 93206534790699L, 100000000000000L);
        fraction(x, 3, 10, 1, 7, 250);
    }

    private static void staysIn() {
        OverInDinghy x = new OverInDinghy();
        int[][] bad = {{0, 0, 0}, {8, 0, 0}, {1, -1, 0}, {1, 8, 0}, {1, 0, -1}, {1, 0, 1000}};
        for (int[] b : bad) {
            Check.due("22: BAD " + java.util.Arrays.toString(b), x.staysIn(b[0], b[1], b[2]), Check.BAD);
        }
        Check.due("22: above, not as much", x.staysIn(1, 0, 10), 2);
        Check.due("22: one of 100 is above 9 of 1000", x.staysIn(1, 0, 9), 1);
        Check.due("22: 40", x.staysIn(1, 0, 399), 40);
        Check.due("22: not even 40", x.staysIn(1, 0, 400), Check.NONE);
        Check.due("22: never", x.staysIn(7, 7, 0), Check.NONE);
        Check.due("22: 36 of 10000 no, 49 of 10000 yes", x.staysIn(2, 1, 4), 7);
        Check.due("22: 1", x.staysIn(7, 6, 0), 1);
        // 1 less 6 of 10 to the seventh is 0.9720064
        Check.due("22: just above", x.staysIn(7, 0, 972), 40);
        Check.due("22: just not", x.staysIn(7, 0, 973), Check.NONE);
        Check.due("22: 999", x.staysIn(7, 0, 999), Check.NONE);
    }

    private static void heads() {
        OverInDinghy x = new OverInDinghy();
        Check.due("23: STATE ahead of BAD", x.heads(9, 9), Check.STATE);
        Check.read(x, "sea 1 1;boat 1 1 1 1;boat 1 1 1 1;boat 1 1 1 1;");
        Check.due("23: row -1", x.heads(-1, 0), Check.BAD);
        Check.due("23: row 8", x.heads(8, 0), Check.BAD);
        Check.due("23: what -1", x.heads(0, -1), Check.BAD);
        Check.due("23: what 3", x.heads(0, 3), Check.BAD);
        Check.due("23: missing", x.heads(0, 0), Check.NULL);
        Check.items(x, 0, 10, 3, 3, 4, 9);
        Check.due("23: too few, ahead of an item", x.heads(0, 0), Check.PLACE);
        Check.items(x, 0, 4, 3, 3, 4, 9, 10);
        Check.due("23: an item", x.heads(0, 0), Check.BAD);
        Check.items(x, 0, 4, -1, 3, 4, 9, 9);
        Check.due("23: an item below 0", x.heads(0, 2), Check.BAD);
        Check.items(x, 0, 10, 3, 3, 4, 9, 9);
        Check.due("23: the first item", x.heads(0, 2), Check.BAD);
        Check.items(x, 0, 4, 3, 3, 3, 9, 9);
        Check.due("23: one lacks, none has more", x.heads(0, 2), 0);
        Check.items(x, 0, 4, 3, 3, 5, 9, 0, 77);
        Check.due("23: lack", x.heads(0, 0), 5);
        Check.due("23: more", x.heads(0, 1), 2);
        Check.due("23: no balance", x.heads(0, 2), 0);
        Check.items(x, 0, 4, 4, 0, 0, 9, 9);
        Check.due("23: none lack", x.heads(0, 0), 0);
        Check.due("23: no more", x.heads(0, 1), 0);
        Check.due("23: balance", x.heads(0, 2), 1);
        Check.items(x, 0, 4, 5, 1, 0, 9, 9);
        Check.due("23: as many in all is no balance", x.heads(0, 2), 0);
        Check.items(x, 0, 0, 9, 0, 9, 0, 8);
        Check.due("23: 26 more", x.heads(0, 1), 26);
    }
}
