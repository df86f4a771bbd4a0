/** "Terms" 3, and promises 14 to 19 and 21 to 22: what is foretold of boats, hands and odds. */
final class ForetoldSentences {
    private static final int LEAST = Integer.MIN_VALUE;
    private static final int MOST = Integer.MAX_VALUE;

    private ForetoldSentences() {
    }

    static void all() {
        Doc.terms(3);
        nothingChanges();
        rightsSets();
        lightestOf();
        roundOf();
        quickestFrom();
        quickestTwo();
        quickestRows();
        quickestGoes();
        quickestStill();
        quickestFewest();
        quickestFirst();
        triesOf();
        airsOf();
        overOf();
        staysInOf();
        Doc.promise(14);
        rights();
        rightsBad();
        rightsState();
        Doc.promise(15);
        lightest();
        lightestBad();
        Doc.promise(16);
        round();
        roundBad();
        Doc.promise(17);
        quickest();
        quickestBad();
        quickestState();
        Doc.promise(18);
        tries();
        triesBad();
        Doc.promise(19);
        airs();
        airsBad();
        Doc.promise(21);
        over();
        overBad();
        Doc.promise(22);
        staysIn();
        staysInBad();
    }

    private static void nothingChanges() {
        Doc.says("FORETOLD (nothing changes).");
        OverInDinghy x = TermsSentences.rich();
        Check.read(x, " 5 5;boat 30 2 5 0;boat 30 2 5 0;hand 0 50 60;hand 0 60 60;hand 1 60 1;");
        x.tip(0);
        x.place(1, 3);
        x.feed('#', 1);
        String before = TermsSentences.all(x);
        x.rights(0, 50, 1, -1);
        x.rights(0, 0, -1, 2);
        x.lightest(0);
        x.round(0);
        x.quickest(0, 0);
        x.quickest(0, 1);
        x.tries(2, 60);
        x.airs(4);
        x.first(0, 2, 20, 1);
        x.over(7, 50, 3, 0);
        x.staysIn(7, 3, 500);
        x.heads(0, 1);
        Check.holds("all is as before", TermsSentences.all(x).equals(before));
    }

    private static void sets(OverInDinghy x, int boat, int m, int bow, long... sets) {
        String call = "rights(" + boat + ", " + m + ", " + bow + ", ";
        Check.due(call + "-1)", x.rights(boat, m, bow, -1), sets.length);
        for (int i = 0; i < sets.length; i++) {
            Check.due(call + i + ")", x.rights(boat, m, bow, i), sets[i]);
        }
        Check.due(call + sets.length + ")", x.rights(boat, m, bow, sets.length), Check.NONE);
    }

    private static void rightsSets() {
        Doc.says("RIGHTS of a BOAT as if SIDED, with a MAST m (0 to 100), one HAND told at the bow, or none: sets (bits by HANDS) of her other "
                + "HANDS who can, whose LEVER on the board would be no less than NEED: how many, the i-th, the least first.");
        // hands 1, 2, 4 are hers, 60, 70, 130; need 40, mast, 20
        OverInDinghy x = Check.of("sea 20 10;boat 30 1 0 20;boat 10 4 0 20;hand 0 150 60;hand 1 60 1;hand 1 70 60;hand 0 150 60;hand 1 130 60;");
        sets(x, 1, 0, -1, 2, 4, 6, 16, 18, 20, 22);
        sets(x, 1, 1, -1, 4, 6, 16, 18, 20, 22);
        sets(x, 1, 10, -1, 4, 6, 16, 18, 20, 22);
        sets(x, 1, 11, -1, 6, 16, 18, 20, 22);
        sets(x, 1, 70, -1, 6, 16, 18, 20, 22);
        sets(x, 1, 71, -1, 18, 20, 22);
        sets(x, 1, 100, -1, 18, 20, 22);
        sets(x, 1, 90, 4, 6);
        sets(x, 1, 91, 4);
        sets(x, 1, 30, 2, 16, 18);
        sets(x, 1, 20, 2, 2, 16, 18);
        // whether she is up or over, and where they are, does not matter; who can't is in no set
        x.place(4, 3);
        x.place(1, 2);
        sets(x, 1, 70, -1, 6, 16, 18, 20, 22);
        sets(x, 1, 71, -1, 18, 20, 22);
        x.tip(1);
        x.go(7, 57);
        Check.due("he can't", x.hand(1, 3), 0);
        sets(x, 1, 0, -1, 4, 16, 20);
        sets(x, 1, 0, 2, 16);
        // nor does the mast that she has
        OverInDinghy mast = tipped("sea 20 0;boat 10 4 0 0;hand 0 40 60;hand 0 50 60;");
        mast.go(1, 1);
        Check.due("a mast of 20", mast.boat(0, 1), 20);
        sets(mast, 0, 0, -1, 1, 2, 3);
        sets(mast, 0, 1, -1, 2, 3);
        mast.go(4, 1);
        Check.due("turned", mast.boat(0, 0), 2);
        sets(mast, 0, 10, -1, 2, 3);
        sets(mast, 0, 11, -1, 3);
        // the lever is one sum, cut: 25 and 25 times 3 by 10 is 15, each alone 7
        OverInDinghy y = Check.of("sea 20 0;boat 3 1 0 20;hand 0 25 60;hand 0 25 60;hand 0 33 60;hand 0 34 60;");
        sets(y, 0, 0, -1, 3, 5, 6, 7, 8, 9, 10, 11, 12, 13, 14, 15);
        sets(y, 0, 5, -1, 3, 5, 6, 7, 9, 10, 11, 12, 13, 14, 15);
        // the last hands of twelve
        OverInDinghy z = Check.of("sea 20 0;boat 9 1 0 1;boat 9 1 0 1;boat 9 1 0 1;" + "hand 0 20 1;".repeat(4) + "hand 1 20 1;".repeat(4)
                + "hand 2 50 60;hand 2 50 60;hand 2 50 60;hand 2 50 60;");
        sets(z, 2, 50, 8, 1024 + 512, 2048 + 512, 2048 + 1024, 2048 + 1024 + 512);
        // none of hers
        OverInDinghy none = Check.of("sea 20 0;boat 30 1 0 1;");
        sets(none, 0, 0, -1);
    }

    private static void lightestOf() {
        Doc.says("LIGHTEST: the least WEIGHT (20 to 150) that is enough alone, MAST 0, nobody at the bow; NONE.");
        OverInDinghy x = Check.of("sea 20 10;boat 10 13 0 0;boat 10 14 0 0;boat 20 2 0 0;boat 30 1 0 0;boat 19 2 0 0;boat 7 3 0 0;hand 0 50 60;");
        Check.due("150", x.lightest(0), 150);
        Check.due("160 would be", x.lightest(1), Check.NONE);
        Check.due("20 is just enough", x.lightest(2), 20);
        Check.due("10 would be", x.lightest(3), 20);
        // 21 times 19 is 399
        Check.due("22, cut", x.lightest(4), 22);
        Check.due("72, cut", x.lightest(5), 72);
        Check.read(x, "sea 20 1;boat 20 30 0 0;boat 10 15 0 0;");
        Check.due("151 would be", x.lightest(0), Check.NONE);
        Check.due("152 would be", x.lightest(1), Check.NONE);
        Check.read(x, "sea 20 10;boat 10 4 0 0;hand 0 150 60;hand 0 50 60;");
        x.tip(0);
        x.go(2, 1);
        x.place(0, 3);
        x.place(1, 2);
        Check.due("with a mast of 40", x.boat(0, 1), 40);
        Check.due("60 all the same", x.lightest(0), 60);
    }

    private static void roundOf() {
        Doc.says("ROUND: how many TICKS she is SIDED, from MAST 0 on, till TURNED or STUCK; NONE: FLOAT is 20.");
        int[] due = {5, 6, 6, 6, 7, 7, 8, 8, 9, 10, 10, 12, 13, 15, 17, 20, 25, 34, 50, 100};
        for (int floats = 0; floats < 20; floats++) {
            OverInDinghy x = Check.of("sea 20 0" + (floats % 2 == 0 ? " mud" : "") + ";boat 1 1 0 " + floats + ";");
            Check.due("float " + floats, x.round(0), due[floats]);
            x.tip(0);
            for (int tick = 1; tick < due[floats]; tick++) {
                x.go(1, 1);
            }
            Check.due("sided still", x.boat(0, 0), 1);
            Check.due("from mast 0 on, whatever it is", x.round(0), due[floats]);
            x.go(1, 1);
            Check.due("turned or stuck", x.boat(0, 0), floats % 2 == 0 ? 3 : 2);
            Check.due("then, too", x.round(0), due[floats]);
        }
        Check.due("float 20", Check.of("sea 20 0;boat 1 1 0 20;").round(0), Check.NONE);
    }

    private static void quick(OverInDinghy x, int boat, long ticks, long places) {
        Check.due("ticks", x.quickest(boat, 0), ticks);
        Check.due("places", x.quickest(boat, 1), places);
    }

    private static OverInDinghy tipped(String text) {
        OverInDinghy x = Check.of(text);
        x.tip(0);
        return x;
    }

    private static void quickestFrom() {
        Doc.says("QUICKEST of a BOAT that is SIDED, from how all is,");
        // need 100 by mast 0: one of 100 is enough; by mast 20 both are. Both bail 10 and 9 of 16
        OverInDinghy x = tipped("sea 20 0;boat 10 10 9 0;hand 0 100 60;hand 0 20 60;");
        quick(x, 0, 2, 8);
        x.go(1, 1);
        quick(x, 0, 2, 10);
        x.go(1, 1);
        quick(x, 0, Check.NONE, Check.NONE);
        // a third is where he is, and stays: at the bow, on the board
        x = tipped("sea 20 20;boat 10 4 5 20;hand 0 40 60;hand 0 20 60;hand 0 40 60;hand 0 150 60;");
        // who holds the bow comes in, too: 15 a tick of 40
        quick(x, 0, 4, 11);
        x.place(2, 3);
        quick(x, 0, 4, 8);
        x.place(2, 1);
        x.place(3, 2);
        // three bail: 20 a tick
        quick(x, 0, 3, 0);
        // grip: two bail 15 a tick of 40; he who can for one tick more only leaves it to one, 10 a tick
        x = tipped("sea 20 0;boat 10 4 5 20;hand 0 40 1;hand 0 20 60;");
        quick(x, 0, 4, 8);
        x.go(6, 1);
        quick(x, 0, 5, 8);
    }

    private static void quickestTwo() {
        Doc.says("with her first two HANDS who can (NONE: there are fewer):");
        OverInDinghy none = tipped("sea 20 0;boat 30 1 9 20;");
        quick(none, 0, Check.NONE, Check.NONE);
        OverInDinghy one = tipped("sea 20 0;boat 30 1 9 20;boat 30 1 9 20;hand 0 150 60;hand 1 150 60;");
        quick(one, 0, Check.NONE, Check.NONE);
        one.place(0, 2);
        quick(one, 0, Check.NONE, Check.NONE);
        // the first of three can't: the other two are told their places, the weak one first
        OverInDinghy x = tipped("sea 20 0;boat 10 10 0 20;boat 30 1 9 20;hand 1 150 60;hand 0 100 1;hand 0 20 60;hand 1 150 60;hand 0 100 60;hand 0 100 60;");
        // both bail 10 in six ticks, then one is too cold: 5 in two more
        quick(x, 0, 9, 8);
        x.go(7, 1);
        Check.due("he can't", x.hand(1, 3), 0);
        quick(x, 0, 8, 2);
        // one of two can't
        x = tipped("sea 20 0;boat 30 1 0 20;hand 0 100 1;hand 0 100 60;");
        quick(x, 0, 9, 2);
        x.go(6, 1);
        Check.due("he can by 4", x.hand(0, 3), 4);
        quick(x, 0, 15, 2);
        x.go(1, 1);
        quick(x, 0, Check.NONE, Check.NONE);
    }

    private static void quickestRows() {
        Doc.says("rows of PLACES told for both for three TICKS (in each 4 times the first one's and the second's), from the fourth on as in the third:");
        // need 40, or 80 with nobody at the bow; who can do what: 4 times the first one's and the second's
        int[][] cases = {{80, 20, 8}, {20, 80, 2}, {40, 40, 10}, {40, 20, 11}, {20, 40, 14}, {79, 20, 10}, {20, 60, 10}, {59, 20, 11}, {20, 59, 14}};
        for (int[] c : cases) {
            OverInDinghy x = tipped("sea 20 20;boat 10 4 9 20;hand 0 " + c[0] + " 60;hand 0 " + c[1] + " 60;");
            quick(x, 0, 2, c[2]);
        }
        // both bail from the second tick on to the eighth: the third's places go on
        OverInDinghy x = tipped("sea 20 0;boat 10 4 0 20;hand 0 40 60;hand 0 20 60;");
        quick(x, 0, 8, 8);
        // one tick on the board, two in her: three ticks are told, none is left
        x = tipped("sea 20 0;boat 10 4 7 20;hand 0 40 60;hand 0 20 60;");
        quick(x, 0, 3, 8);
        // and a fourth
        x = tipped("sea 20 0;boat 10 4 5 20;hand 0 40 60;hand 0 20 60;");
        quick(x, 0, 4, 8);
    }

    private static void quickestGoes() {
        Doc.says("ahead of each TICK each of both who can goes to his (0 while she is not UP, FULL: the water instead);");
        // they are on the board already, but too heavy a need without the bow: one of them goes there
        OverInDinghy x = tipped("sea 20 20;boat 10 4 9 20;hand 0 20 60;hand 0 50 60;");
        x.place(0, 2);
        x.place(1, 2);
        quick(x, 0, 2, 14);
        // at the bow already, told 0 he leaves it: only 3 keeps him
        x = tipped("sea 20 20;boat 10 4 9 20;hand 0 20 60;hand 0 20 60;hand 0 40 60;");
        x.place(0, 3);
        x.place(2, 2);
        quick(x, 0, 2, 3);
        // on the board already, told 0 he is in the water, and the third alone is too light
        x = tipped("sea 20 0;boat 10 4 9 20;hand 0 20 60;hand 0 20 60;hand 0 20 60;");
        x.place(0, 2);
        x.place(2, 2);
        quick(x, 0, 2, 2);
        // his grip ends in the first tick: he is in her, but bails no more
        x = tipped("sea 20 0;boat 10 4 5 20;hand 0 20 1;hand 0 20 60;");
        x.go(6, 1);
        Check.due("4 are left", x.hand(0, 3), 4);
        quick(x, 0, 5, 10);
        // his grip ends in the second: one tick of 15, then 10 a tick
        x = tipped("sea 20 0;boat 10 4 5 20;hand 0 20 1;hand 0 20 60;");
        x.go(5, 1);
        Check.due("170 are left", x.hand(0, 3), 170);
        quick(x, 0, 5, 10);
        x = tipped("sea 20 0;boat 10 4 4 20;hand 0 20 1;hand 0 20 60;");
        x.go(5, 1);
        // 46: 14, then 9 a tick: 4 more; with no tick of 14 it would be 6
        quick(x, 0, 6, 10);
        x.go(1, 1);
        quick(x, 0, 7, 10);
    }

    private static void quickestStill() {
        Doc.says("TICKS without GUSTS and draws (so she is never SIDED again):");
        // a wind that would tip her, dry or full, and have her over again
        OverInDinghy x = tipped("sea 20 40;boat 10 3 5 20;hand 0 110 60;hand 0 20 60;");
        quick(x, 0, 4, 8);
        x.place(0, 2);
        x.go(1, 1);
        Check.due("by a draw she is over again", x.boat(0, 0), 1);
        Check.due("which is why she became so twice", x.boat(0, 6), 2);
        quick(x, 0, 4, 8);
        Check.due("and asking draws nothing", x.boat(0, 6), 2);
    }

    private static void quickestFewest() {
        Doc.says("the fewest TICKS (20 at most) behind which she is UP; NONE;");
        // air 2: 58. Both bail twice, then can't: 58 less 2 times 12 are 34, by 2 a tick 17: 1 and 2 and 17
        OverInDinghy x = tipped("sea 20 0;boat 10 4 2 20;hand 0 40 1;hand 0 40 1;");
        x.go(4, 1);
        Check.due("336", x.hand(0, 3), 336);
        quick(x, 0, 20, 2);
        // one of them bails once only: 58 less 12 less 7 are 39, by 2 a tick 20: 1 and 2 and 20
        x = Check.of("sea 20 0;boat 10 4 2 20;hand 0 40 1;hand 0 40 1;");
        x.place(0, 1);
        x.go(1, 10);
        x.tip(0);
        x.go(4, 1);
        Check.due("170", x.hand(0, 3), 170);
        Check.due("336", x.hand(1, 3), 336);
        quick(x, 0, Check.NONE, Check.NONE);
        // both are gone at once, and no air: never
        x = tipped("sea 20 0;boat 10 4 0 20;hand 0 40 1;hand 0 40 1;");
        x.go(6, 1);
        quick(x, 0, Check.NONE, Check.NONE);
        // too light for her: never
        x = tipped("sea 20 0;boat 10 10 9 20;hand 0 49 60;hand 0 50 60;");
        quick(x, 0, Check.NONE, Check.NONE);
        x = tipped("sea 20 0;boat 10 10 9 20;hand 0 50 60;hand 0 50 60;");
        quick(x, 0, 2, 10);
        // the fewest there can be: up, and dry
        x = tipped("sea 20 0;boat 30 1 9 20;hand 0 50 60;hand 0 50 60;");
        quick(x, 0, 2, 2);
    }

    private static void quickestFirst() {
        Doc.says("of several rows the first by its three numbers: what it tells for the first TICK.");
        // either alone, both, with or without the bow: the second alone is first; 0 is ahead of 1 where he need not be there
        OverInDinghy x = tipped("sea 20 20;boat 30 1 9 20;hand 0 150 60;hand 0 150 60;");
        quick(x, 0, 2, 2);
        // only the first can: 8, not 9
        x = tipped("sea 20 20;boat 30 1 9 20;hand 0 150 60;hand 0 20 60;");
        quick(x, 0, 2, 2);
        x = tipped("sea 20 20;boat 10 4 9 20;hand 0 150 60;hand 0 20 60;");
        quick(x, 0, 2, 8);
        // one on the board with a bow held, or both on the board: the board is ahead of the bow
        x = tipped("sea 20 20;boat 10 4 9 20;hand 0 45 60;hand 0 45 60;");
        quick(x, 0, 2, 10);
        // neither is needed
        x = tipped("sea 20 20;boat 30 1 9 20;hand 0 50 60;hand 0 50 60;hand 0 150 60;");
        x.place(2, 2);
        quick(x, 0, 2, 0);
        // slower rows tell less, but fewer ticks are ahead of that
        x = tipped("sea 20 0;boat 10 4 0 20;hand 0 40 60;hand 0 40 60;hand 0 40 60;");
        x.place(2, 2);
        quick(x, 0, 6, 0);
    }

    private static void triesOf() {
        Doc.says("TRIES of a HAND, each t TICKS (1 to 60) in the water: how many he begins while his GRIP is above 0.");
        // 1000 by 48 is 20: t ticks of 20
        OverInDinghy x = Check.of("sea 10 0;boat 1 1 0 20;hand 0 50 8;hand 0 50 1;hand 0 50 60;");
        Check.due("just 50", x.tries(0, 1), 50);
        Check.due("just 1", x.tries(0, 50), 1);
        Check.due("980, and one more", x.tries(0, 49), 2);
        Check.due("1020", x.tries(0, 51), 1);
        Check.due("just 2", x.tries(0, 25), 2);
        Check.due("2 and a rest", x.tries(0, 24), 3);
        Check.due("t 60", x.tries(0, 60), 1);
        Check.due("6 leave 4", x.tries(1, 1), 7);
        Check.due("3 leave 4", x.tries(1, 2), 4);
        Check.due("2 a tick", x.tries(2, 1), 500);
        Check.due("120 each", x.tries(2, 60), 9);
        // from the grip that he has
        x.place(0, 1);
        x.go(49, 10);
        Check.due("20 are left", x.tries(0, 1), 1);
        x.go(1, 10);
        Check.due("none is left", x.tries(0, 1), 0);
        Check.due("none is left", x.tries(0, 60), 0);
        Check.due("the other's", x.tries(1, 1), 7);
        Check.read(x, "sea 9 0;boat 1 1 0 20;hand 0 50 8;hand 0 50 60;");
        Check.due("20 and 10", x.tries(0, 1), 34);
        Check.due("2 and 1", x.tries(1, 1), 334);
    }

    private static void airsOf() {
        Doc.says("AIRS by n HANDS (1 to 4): of AIR 0 to 9: BLOWS off: AIR; BAILS: (70 less 6 times AIR) by (5 times n and AIR), up to a whole number: "
                + "those AIRS (bits) beside which no other is no greater in both and less in one.");
        OverInDinghy x = new OverInDinghy();
        // 14 11 9 7 6 4 4 3 2 2
        Check.due("1", x.airs(1), 1 + 2 + 4 + 8 + 16 + 32 + 128 + 256);
        // 7 6 5 4 4 3 3 2 2 1
        Check.due("2", x.airs(2), 1 + 2 + 4 + 8 + 32 + 128 + 512);
        // 5 4 4 3 3 2 2 2 1 1
        Check.due("3", x.airs(3), 1 + 2 + 8 + 32 + 256);
        // 4 4 3 3 2 2 2 2 1 1
        Check.due("4", x.airs(4), 1 + 4 + 16 + 256);
    }

    private static void fraction(OverInDinghy x, int n, int p, int r, long above, long below) {
        Check.due("above " + n + " " + p + " " + r, x.over(n, p, r, 0), above);
        Check.due("below " + n + " " + p + " " + r, x.over(n, p, r, 1), below);
    }

    private static void overOf() {
        Doc.says("OVER: n boats (1 to 7), each over by p of 100, by itself: odds that more than r (0 to 7) are: a fraction.");
        OverInDinghy x = new OverInDinghy();
        fraction(x, 1, 1, 0, 1, 100);
        fraction(x, 1, 99, 0, 99, 100);
        fraction(x, 1, 50, 1, 0, 1);
        fraction(x, 2, 50, 0, 3, 4);
        fraction(x, 2, 50, 1, 1, 4);
        fraction(x, 3, 10, 0, 271, 1000);
        fraction(x, 3, 10, 1, 7, 250);
        fraction(x, 3, 10, 2, 1, 1000);
        // none of 7, none or one of 7, by halves
        fraction(x, 7, 50, 0, 127, 128);
        fraction(x, 7, 50, 1, 15, 16);
        fraction(x, 7, 50, 2, 99, 128);
        fraction(x, 7, 50, 3, 1, 2);
        fraction(x, 7, 50, 4, 29, 128);
        fraction(x, 7, 50, 5, 1, 16);
        fraction(x, 7, 50, 6, 1, 128);
        fraction(x, 7, 50, 7, 0, 1);
        // the longest there are: 1 less 99 to the seventh, and 99 to the seventh
        fraction(x, 7, 1, 0, 100000000000000L - 93206534790699L, 100000000000000L);
        fraction(x, 7, 99, 6, 93206534790699L, 100000000000000L);
        fraction(x, 7, 1, 6, 1, 100000000000000L);
    }

    private static void staysInOf() {
        Doc.says("STAYS IN: the least WIND w (0 to 40) for which OVER by w of 100 is above q of 1000; NONE.");
        OverInDinghy x = new OverInDinghy();
        Check.due("0 of 100 is not above 0: 1 is", x.staysIn(1, 0, 0), 1);
        Check.due("10 of 1000 is above 9", x.staysIn(1, 0, 9), 1);
        Check.due("10 of 1000 is not above 10", x.staysIn(1, 0, 10), 2);
        Check.due("400 of 1000 is above 399", x.staysIn(1, 0, 399), 40);
        Check.due("400 of 1000 is not above 400", x.staysIn(1, 0, 400), Check.NONE);
        Check.due("more than one of one", x.staysIn(1, 1, 0), Check.NONE);
        Check.due("more than seven of seven", x.staysIn(7, 7, 0), Check.NONE);
        Check.due("all of seven", x.staysIn(7, 6, 0), 1);
        Check.due("972 and a bit", x.staysIn(7, 0, 972), 40);
        Check.due("not 973", x.staysIn(7, 0, 973), Check.NONE);
        Check.due("two of two by 20 is just 40 of 1000", x.staysIn(2, 1, 40), 21);
        Check.due("and above 39", x.staysIn(2, 1, 39), 20);
    }

    private static void rights() {
        Doc.says("RIGHTS: how many sets (i = -1), the i-th; NONE: not so many.");
        OverInDinghy x = Check.of("sea 20 0;boat 30 1 0 0;boat 30 1 0 0;" + "hand 0 50 60;".repeat(4));
        Check.due("15", x.rights(0, 0, -1, -1), 15);
        for (int i = 0; i < 15; i++) {
            Check.due("the " + i + "th", x.rights(0, 0, -1, i), i + 1);
        }
        Check.due("no 15th", x.rights(0, 0, -1, 15), Check.NONE);
        Check.due("far from so many", x.rights(0, 0, -1, MOST), Check.NONE);
        Check.due("none of none", x.rights(1, 0, -1, -1), 0);
        Check.due("no 0th of none", x.rights(1, 0, -1, 0), Check.NONE);
        Check.due("seven with one at the bow", x.rights(0, 0, 3, -1), 7);
        Check.due("the last of them", x.rights(0, 0, 3, 6), 7);
        Check.due("no more", x.rights(0, 0, 3, 7), Check.NONE);
    }

    private static void rightsBad() {
        Doc.says("BAD: m, bow (a HAND of hers; -1: none), i;");
        OverInDinghy x = Check.of("sea 20 0;boat 30 1 0 0;boat 30 1 0 0;hand 0 50 60;hand 1 50 60;");
        int[][] bad = {{0, -1, -1, 0}, {0, 101, -1, 0}, {0, LEAST, -1, 0}, {0, MOST, -1, 0}, {0, 0, -2, 0}, {0, 0, 1, 0}, {0, 0, 2, 0},
            {0, 0, 12, 0}, {0, 0, LEAST, 0}, {0, 0, MOST, 0}, {0, 0, -1, -2}, {0, 0, -1, LEAST}, {-1, 0, -1, 0}, {2, 0, -1, 0}, {LEAST, 0, -1, 0},
            {MOST, 0, -1, 0}, {1, 0, 0, 0}};
        for (int[] b : bad) {
            Check.due(java.util.Arrays.toString(b), x.rights(b[0], b[1], b[2], b[3]), Check.BAD);
        }
        Check.due("m 0", x.rights(0, 0, -1, 0), 1);
        Check.due("m 100", x.rights(0, 100, -1, 0), 1);
        Check.due("hers", x.rights(1, 0, 1, -1), 0);
    }

    private static void rightsState() {
        Doc.says("STATE: he can't (behind BAD).");
        OverInDinghy x = Check.of("sea 20 0;boat 30 1 0 0;boat 30 1 0 0;hand 0 50 1;hand 0 50 60;");
        x.place(0, 1);
        x.go(6, 10);
        Check.due("he can", x.rights(0, 0, 0, -1), 1);
        x.go(1, 10);
        Check.due("he can't", x.rights(0, 0, 0, -1), Check.STATE);
        Check.due("he can't, the i-th", x.rights(0, 0, 0, 0), Check.STATE);
        Check.due("behind m", x.rights(0, 101, 0, -1), Check.BAD);
        Check.due("behind i", x.rights(0, 0, 0, -2), Check.BAD);
        Check.due("behind the boat", x.rights(2, 0, 0, -1), Check.BAD);
        Check.due("behind whose he is", x.rights(1, 0, 0, -1), Check.BAD);
        Check.due("the other can", x.rights(0, 0, 1, -1), 0);
    }

    private static void lightest() {
        Doc.says("LIGHTEST; NONE.");
        OverInDinghy x = Check.of("sea 20 0;boat 10 10 0 0;boat 1 2 0 0;boat 10 15 0 0;boat 10 16 0 0;boat 10 2 0 0;boat 10 1 0 0;");
        long[] due = {100, Check.NONE, 150, Check.NONE, 20, 20};
        for (int b = 0; b < 6; b++) {
            Check.due("boat " + b, x.lightest(b), due[b]);
        }
    }

    private static void lightestBad() {
        Doc.says("BAD.");
        OverInDinghy x = Check.of("sea 20 0;boat 10 10 0 0;");
        int[] bad = {-1, 1, 6, LEAST, MOST};
        for (int b : bad) {
            Check.due("boat " + b, x.lightest(b), Check.BAD);
        }
    }

    private static void round() {
        Doc.says("ROUND; NONE.");
        OverInDinghy x = Check.of("sea 20 0;boat 1 1 0 0;boat 1 1 0 20;boat 1 1 0 19;boat 1 1 0 18;boat 1 1 0 1;boat 1 1 0 20;");
        long[] due = {5, Check.NONE, 100, 50, 6, Check.NONE};
        for (int b = 0; b < 6; b++) {
            Check.due("boat " + b, x.round(b), due[b]);
        }
    }

    private static void roundBad() {
        Doc.says("BAD.");
        OverInDinghy x = Check.of("sea 20 0;boat 10 10 0 0;");
        int[] bad = {-1, 1, 6, LEAST, MOST};
        for (int b : bad) {
            Check.due("boat " + b, x.round(b), Check.BAD);
        }
    }

    private static void quickest() {
        Doc.says("QUICKEST: TICKS (what = 0), PLACES (1); NONE.");
        OverInDinghy x = tipped("sea 20 0;boat 10 10 9 20;boat 10 10 9 20;hand 0 50 60;hand 0 50 60;hand 1 100 60;");
        x.tip(1);
        Check.due("ticks", x.quickest(0, 0), 2);
        Check.due("places", x.quickest(0, 1), 10);
        Check.due("no ticks", x.quickest(1, 0), Check.NONE);
        Check.due("no places", x.quickest(1, 1), Check.NONE);
        Check.due("ticks once more", x.quickest(0, 0), 2);
    }

    private static void quickestBad() {
        Doc.says("BAD;");
        OverInDinghy x = tipped("sea 20 0;boat 10 10 9 20;hand 0 50 60;hand 0 50 60;");
        int[][] bad = {{-1, 0}, {1, 0}, {6, 0}, {LEAST, 0}, {MOST, 0}, {0, -1}, {0, 2}, {0, LEAST}, {0, MOST}};
        for (int[] b : bad) {
            Check.due(b[0] + ", " + b[1], x.quickest(b[0], b[1]), Check.BAD);
        }
    }

    private static void quickestState() {
        Doc.says("STATE: she is not SIDED.");
        OverInDinghy x = Check.of("sea 20 0;boat 10 10 0 0;hand 0 50 60;hand 0 50 60;");
        Check.due("up", x.quickest(0, 0), Check.STATE);
        x.tip(0);
        Check.due("sided", x.quickest(0, 0), 8);
        x.image(0);
        x.place(0, 2);
        x.place(1, 2);
        x.go(1, 1);
        Check.due("full", x.quickest(0, 1), Check.STATE);
        x.restore(0);
        x.go(5, 1);
        Check.due("turned", x.quickest(0, 0), Check.STATE);
        x = tipped("sea 20 0 mud;boat 10 10 0 0;hand 0 50 60;hand 0 50 60;");
        x.go(5, 1);
        Check.due("stuck", x.quickest(0, 0), Check.STATE);
    }

    private static void tries() {
        Doc.says("TRIES.");
        OverInDinghy x = Check.of("sea 10 0;boat 1 1 0 20;boat 1 1 0 20;hand 1 50 1;hand 0 50 60;");
        Check.due("the first", x.tries(0, 1), 7);
        Check.due("the last, by 60", x.tries(1, 60), 9);
    }

    private static void triesBad() {
        Doc.says("BAD.");
        OverInDinghy x = Check.of("sea 10 0;boat 1 1 0 20;hand 0 50 1;hand 0 50 60;");
        int[][] bad = {{-1, 1}, {2, 1}, {12, 1}, {LEAST, 1}, {MOST, 1}, {0, 0}, {0, 61}, {0, -1}, {0, LEAST}, {0, MOST}};
        for (int[] b : bad) {
            Check.due(b[0] + ", " + b[1], x.tries(b[0], b[1]), Check.BAD);
        }
    }

    private static void airs() {
        Doc.says("AIRS by n HANDS.");
        // a club, or how it is, does not matter
        OverInDinghy x = TermsSentences.rich();
        Check.due("1", x.airs(1), 447);
        Check.due("4", x.airs(4), 277);
    }

    private static void airsBad() {
        Doc.says("BAD.");
        OverInDinghy x = new OverInDinghy();
        int[] bad = {0, 5, -1, LEAST, MOST};
        for (int n : bad) {
            Check.due("n " + n, x.airs(n), Check.BAD);
        }
    }

    private static void over() {
        Doc.says("OVER: above (what = 0), below (1).");
        OverInDinghy x = new OverInDinghy();
        Check.due("above", x.over(1, 25, 0, 0), 1);
        Check.due("below", x.over(1, 25, 0, 1), 4);
    }

    private static void overBad() {
        Doc.says("BAD.");
        OverInDinghy x = new OverInDinghy();
        int[][] bad = {{0, 1, 0, 0}, {8, 1, 0, 0}, {-1, 1, 0, 0}, {LEAST, 1, 0, 0}, {MOST, 1, 0, 0}, {1, -1, 0, 0}, {1, 101, 0, 0}, {1, -2, 0, 1},
            {2, -1, 0, 0}, {2, -1, 1, 1}, {1, LEAST, 0, 0}, {1, MOST, 0, 0}, {1, 1, -1, 0}, {1, 1, 8, 0}, {1, 1, LEAST, 0}, {1, 1, MOST, 0},
            {1, 1, 0, -1}, {1, 1, 0, 2}, {1, 1, 0, LEAST}, {1, 1, 0, MOST}};
        for (int[] b : bad) {
            Check.due(java.util.Arrays.toString(b), x.over(b[0], b[1], b[2], b[3]), Check.BAD);
        }
        Check.due("p 0", x.over(1, 0, 0, 1), 1);
        Check.due("p 100", x.over(1, 100, 0, 0), 1);
        Check.due("r 7 of one", x.over(1, 100, 7, 0), 0);
    }

    private static void staysIn() {
        Doc.says("STAYS IN, q 0 to 999; NONE.");
        OverInDinghy x = new OverInDinghy();
        Check.due("q 0", x.staysIn(7, 0, 0), 1);
        Check.due("q 999", x.staysIn(7, 0, 999), Check.NONE);
        Check.due("q 500", x.staysIn(7, 0, 500), 10);
    }

    private static void staysInBad() {
        Doc.says("BAD.");
        OverInDinghy x = new OverInDinghy();
        int[][] bad = {{0, 0, 0}, {8, 0, 0}, {-1, 0, 0}, {LEAST, 0, 0}, {MOST, 0, 0}, {1, -1, 0}, {1, 8, 0}, {1, LEAST, 0}, {1, MOST, 0},
            {1, 0, -1}, {1, 0, 1000}, {1, 0, LEAST}, {1, 0, MOST}};
        for (int[] b : bad) {
            Check.due(java.util.Arrays.toString(b), x.staysIn(b[0], b[1], b[2]), Check.BAD);
        }
        Check.due("r 7", x.staysIn(1, 7, 0), Check.NONE);
        Check.due("n 7", x.staysIn(7, 0, 999), Check.NONE);
    }
}
