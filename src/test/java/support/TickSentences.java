/**
 * "Terms" 2, and promises 9 to 13. By a seed s below 127774 the first draw is 16807 times s, so its rest by 10 is that of
 * 7 times s, and its rest by 100, too.
 */
final class TickSentences {
    private TickSentences() {
    }

    static void all() {
        Doc.terms(2);
        ways();
        bounds();
        places();
        grip();
        boatByBoat();
        draws();
        drawsOfUp();
        tips();
        bails();
        dry();
        asBegan();
        need();
        lever();
        comesUp();
        again();
        bowHeld();
        mast();
        round();
        turned();
        stuck();
        cold();
        colder();
        leastGrip();
        Doc.promise(9);
        place();
        placeBad();
        placeState();
        Doc.promise(10);
        tip();
        tipBad();
        tipState();
        Doc.promise(11);
        go();
        goBad();
        goState();
        Doc.promise(12);
        boat();
        boatBad();
        Doc.promise(13);
        hand();
        handBad();
    }

    private static void is(OverInDinghy x, int boat, long how, long mast, long water) {
        Check.due("how boat " + boat + " is", x.boat(boat, 0), how);
        Check.due("mast of " + boat, x.boat(boat, 1), mast);
        Check.due("water of " + boat, x.boat(boat, 2), water);
    }

    /** A club whose boat 0 was tipped, its hands at these places, and went on for a tick by the seed. */
    private static OverInDinghy tipped(String text, int seed, int... places) {
        OverInDinghy x = Check.of(text);
        x.tip(0);
        for (int h = 0; h < places.length; h++) {
            x.place(h, places[h]);
        }
        x.go(1, seed);
        return x;
    }

    private static void ways() {
        Doc.says("A BOAT is UP, SIDED, TURNED (all the way round), STUCK (TURNED, in the mud), or FULL (UP with water);");
        OverInDinghy x = Check.of("sea 20 0 mud;boat 30 1 1 20;boat 30 1 1 20;boat 30 1 1 0;boat 30 1 1 0;boat 30 1 1 20;hand 2 150 60;hand 4 150 60;");
        for (int b = 1; b < 5; b++) {
            x.tip(b);
        }
        x.go(5, 1);
        x.place(0, 2);
        x.place(1, 2);
        x.go(1, 1);
        is(x, 0, 0, 0, 0);
        is(x, 1, 1, 0, 0);
        is(x, 2, 2, 100, 0);
        is(x, 3, 3, 100, 0);
        is(x, 4, 4, 0, 64);
    }

    private static void bounds() {
        Doc.says("MAST (0 to 100) and WATER (0 to 100).");
        for (int floats = 0; floats <= 20; floats++) {
            OverInDinghy x = Check.of("sea 20 0;boat 30 1 " + floats % 10 + " " + floats + ";hand 0 150 60;");
            x.tip(0);
            for (int tick = 1; tick <= 101; tick++) {
                x.go(1, 1);
                Check.due("float " + floats + " by tick " + tick, x.boat(0, 1), Math.min(100, tick * (20 - floats)));
                Check.due("no water", x.boat(0, 2), 0);
            }
            x.place(0, 2);
            x.go(3, 1);
            for (int tick = 0; tick < 16; tick++) {
                Check.holds("water of " + floats, x.boat(0, 2) >= 0 && x.boat(0, 2) <= 70);
                x.go(1, 1);
            }
            Check.due("dry", x.boat(0, 2), 0);
        }
    }

    private static void places() {
        Doc.says("A HAND is at a PLACE: 0 in her, 1 in the water beside, 2 on the board, 3 at the bow;");
        OverInDinghy x = Check.of("sea 20 3;boat 30 1 0 20;hand 0 50 60;");
        long[] weightIn = {50, 0, 0, 0};
        long[] lever = {0, 0, 150, 0};
        long[] need = {16, 16, 16, 10};
        for (int place = 0; place < 4; place++) {
            x.place(0, place);
            Check.due("place", x.hand(0, 2), place);
            Check.due("in her", x.boat(0, 5), weightIn[place]);
            Check.due("on the board", x.boat(0, 4), lever[place]);
            Check.due("at the bow", x.boat(0, 3), need[place]);
        }
    }

    private static void grip() {
        Doc.says("GRIP 1000 at first, so long as it is above 0 it can.");
        // 1000 by 36 is 27: 37 ticks leave 1
        OverInDinghy x = Check.of("sea 10 0;boat 30 1 0 20;hand 0 50 6;");
        Check.due("at first", x.hand(0, 3), 1000);
        x.place(0, 1);
        x.go(37, 1);
        Check.due("1", x.hand(0, 3), 1);
        Check.due("he can", x.place(0, 2), 1);
        Check.due("his lever", x.boat(0, 4), 150);
        Check.due("none can't", x.count(5), 0);
        x.go(1, 1);
        Check.due("0", x.hand(0, 3), 0);
        Check.due("he can't", x.place(0, 1), Check.STATE);
        Check.due("no lever", x.boat(0, 4), 0);
        Check.due("one can't", x.count(5), 1);
        // by 1 he holds the bow, too
        x = Check.of("sea 10 3;boat 30 1 0 20;hand 0 50 6;");
        x.tip(0);
        x.place(0, 3);
        x.go(37, 1);
        Check.due("1", x.hand(0, 3), 1);
        Check.due("he holds the bow", x.boat(0, 3), 10);
        x.go(1, 1);
        Check.due("no more", x.boat(0, 3), 16);
        // and bails
        x = Check.of("sea 10 0;boat 30 1 0 20;hand 0 150 6;");
        x.tip(0);
        x.go(36, 1);
        x.place(0, 2);
        x.go(1, 1);
        is(x, 0, 4, 0, 70);
        Check.due("1", x.hand(0, 3), 1);
        x.go(1, 1);
        is(x, 0, 4, 0, 65);
        x.go(1, 1);
        is(x, 0, 4, 0, 65);
    }

    /** By wind 40 and one sail a gust is 40 and the rest; a beam of 1 is 5: a hand of 35 and the rest just holds her. */
    private static String holding(int... weights) {
        StringBuilder text = new StringBuilder("sea 20 40;");
        for (int i = 0; i < weights.length; i++) {
            text.append("boat 1 1 0 20;");
        }
        for (int i = 0; i < weights.length; i++) {
            text.append("hand ").append(i).append(' ').append(weights[i]).append(" 60;");
        }
        return text.toString();
    }

    private static void restsAre(int seed, int... rests) {
        int[] weights = new int[rests.length];
        for (int i = 0; i < rests.length; i++) {
            weights[i] = 35 + rests[i];
        }
        OverInDinghy x = Check.of(holding(weights));
        x.go(1, seed);
        Check.due("all hold by seed " + seed, x.count(6), 0);
        for (int i = 0; i < rests.length; i++) {
            weights[i]--;
        }
        x = Check.of(holding(weights));
        x.go(1, seed);
        Check.due("none holds by seed " + seed, x.count(6), rests.length);
    }

    private static void boatByBoat() {
        Doc.says("A TICK (ten seconds) by X, BOAT by BOAT;");
        restsAre(1, 7, 9, 3, 8, 0, 2);
        // a second tick goes on with X: the rest is 9 then
        OverInDinghy x = Check.of(holding(43));
        x.go(1, 1);
        is(x, 0, 0, 0, 0);
        x.go(1, 1);
        is(x, 0, 0, 0, 0);
        x = Check.of(holding(43));
        x.go(2, 1);
        is(x, 0, 1, 0, 0);
        x = Check.of(holding(44));
        x.go(2, 1);
        is(x, 0, 0, 0, 0);
        // all boats of one tick ahead of the next tick: 7, 9, then 3, 8
        x = Check.of(holding(42, 44));
        x.go(1, 1);
        Check.due("both hold", x.count(6), 0);
        x = Check.of(holding(42, 44));
        x.go(2, 1);
        is(x, 0, 0, 0, 0);
        is(x, 1, 0, 0, 0);
        Check.due("two ticks", x.count(3), 2);
    }

    private static void draws() {
        Doc.says("a draw: X becomes the rest of (X times 16807) by 2147483647:");
        restsAre(999999, 4, 2, 9, 9, 8, 2);
        restsAre(500000, 9, 4, 6, 5, 9, 7);
        // the last product below 2147483647, and the first above
        restsAre(127773, 1, 5, 4, 3, 9, 7);
        restsAre(127774, 1, 7, 0, 1, 9, 9);
    }

    private static void drawsOfUp() {
        Doc.says("UP, FULL (as the TICK began): a draw; GUST: WIND and the rest of X by 10.");
        String two = "sea 20 40;boat 30 1 0 20;boat 1 1 0 20;hand 1 42 60;hand 0 150 60;";
        // the second boat holds by a rest of 7, the first draw's, but not by 9, the second's
        OverInDinghy x = Check.of(two);
        x.go(1, 1);
        is(x, 1, 1, 0, 0);
        x = Check.of(two);
        x.tip(0);
        x.go(1, 1);
        Check.due("one that lies draws nothing", x.boat(1, 0), 0);
        x = Check.of("sea 20 40;boat 30 1 0 0;boat 1 1 0 20;hand 1 42 60;hand 0 150 60;hand 0 20 60;");
        x.tip(0);
        x.place(1, 2);
        x.place(2, 3);
        x.go(1, 1);
        is(x, 0, 4, 0, 70);
        Check.due("one that comes up by this tick has no gust in it", x.boat(1, 0), 0);
        x.go(1, 1);
        Check.due("one that is full draws", x.boat(1, 0), 1);
        for (int how = 2; how <= 3; how++) {
            x = Check.of("sea 20 40" + (how == 3 ? " mud" : "") + ";boat 30 1 0 0;boat 1 1 0 20;hand 1 42 60;");
            x.tip(0);
            for (int tick = 0; tick < 5; tick++) {
                x.go(1, 10);
            }
            is(x, 0, how, 100, 0);
            x.go(1, 1);
            Check.due("nor does one that is all the way round", x.boat(1, 0), 0);
        }
        x = Check.of("sea 20 0;boat 1 1 0 20;");
        x.go(1, 8);
        Check.due("a gust of 6 in no wind is above 5", x.boat(0, 0), 1);
        x = Check.of("sea 20 0;boat 1 1 0 20;");
        x.go(1, 5);
        Check.due("a gust of 5 is not", x.boat(0, 0), 0);
    }

    private static void tips() {
        Doc.says("If GUST times SAIL is above (the WEIGHT of all HANDS in her, and 5 times BEAM, less WATER): "
                + "she TIPS: SIDED, MAST 0, WATER 0, all HANDS in her in the water.");
        // a gust of 3 and 7, 10 times 10, and 70 and 5 times 6
        OverInDinghy x = Check.of("sea 20 3;boat 6 10 0 20;hand 0 20 60;hand 0 50 60;");
        x.go(1, 1);
        is(x, 0, 0, 0, 0);
        Check.due("in her", x.hand(0, 2), 0);
        x = Check.of("sea 20 3;boat 6 10 0 20;hand 0 20 60;hand 0 49 60;hand 0 150 60;");
        x.place(2, 3);
        x.go(1, 1);
        is(x, 0, 1, 0, 0);
        Check.due("in the water", x.hand(0, 2), 1);
        Check.due("both", x.hand(1, 2), 1);
        Check.due("not who was at the bow", x.hand(2, 2), 3);
        Check.due("once", x.boat(0, 6), 1);
        // with water of 70: 10 times 3, and 80 and 20 less 70; one at the bow lets her come up without a draw
        x = tipped("sea 20 3;boat 4 3 0 20;hand 0 80 60;hand 0 20 60;", 1, 2, 3);
        is(x, 0, 4, 0, 70);
        x.go(1, 1);
        is(x, 0, 4, 0, 65);
        x = tipped("sea 20 3;boat 4 3 0 20;hand 0 79 60;hand 0 20 60;", 1, 2, 3);
        is(x, 0, 4, 0, 70);
        x.go(1, 1);
        is(x, 0, 1, 0, 0);
        Check.due("out again", x.hand(0, 2), 1);
        // who can't is weight in her all the same: 40 times 10, and 250 and 150
        for (int weight = 99; weight <= 100; weight++) {
            x = tipped("sea 20 31;boat 30 10 0 20;hand 0 150 60;hand 0 " + weight + " 1;", 10, 2, 2);
            for (int tick = 0; tick < 8; tick++) {
                x.go(1, 10);
            }
            is(x, 0, 0, 0, 0);
            Check.due("he can't", x.hand(1, 3), 0);
            Check.due("he is in her", x.hand(1, 2), 0);
            x.go(1, 7);
            is(x, 0, weight == 100 ? 0 : 1, 0, 0);
        }
        // the less it holds her, the more water: below 0 even in no wind
        x = tipped("sea 20 0;boat 4 3 0 20;hand 0 80 60;", 10, 2);
        is(x, 0, 4, 0, 70);
        x.place(0, 1);
        x.go(1, 10);
        is(x, 0, 1, 0, 0);
    }

    private static void bails() {
        Doc.says("Else, if FULL: WATER becomes less by 5 for each HAND in her who can, and by AIR;");
        for (int in = 0; in <= 4; in++) {
            for (int air = 0; air <= 9; air += 3) {
                OverInDinghy x = tipped("sea 20 0;boat 30 1 " + air + " 20;" + "hand 0 150 60;".repeat(4), 1, 2, 2, 2, 2);
                is(x, 0, 4, 0, 70 - 6 * air);
                for (int h = in; h < 4; h++) {
                    x.place(h, h == 3 ? 1 : h == 2 ? 2 : 3);
                }
                x.go(1, 1);
                Check.due(in + " in her, air " + air, x.boat(0, 2), Math.max(0, 70 - 6 * air - 5 * in - air));
            }
        }
        // who can't does not bail: 7 ticks in all, then one bails alone
        OverInDinghy x = Check.of("sea 20 0;boat 30 1 0 20;hand 0 150 60;hand 0 50 1;");
        x.tip(0);
        x.place(1, 2);
        x.go(1, 1);
        is(x, 0, 4, 0, 70);
        x.place(1, 1);
        x.go(6, 1);
        Check.due("he can't", x.hand(1, 3), 0);
        is(x, 0, 4, 0, 70);
        x.place(0, 0);
        x.go(1, 1);
        is(x, 0, 4, 0, 65);
    }

    private static void dry() {
        Doc.says("at 0 (no less) she is UP.");
        // 70 by 10 a tick: 7 ticks, just 0
        OverInDinghy x = tipped("sea 20 0;boat 30 1 0 20;hand 0 150 60;hand 0 150 60;", 1, 2, 2);
        x.go(6, 1);
        is(x, 0, 4, 0, 10);
        x.go(1, 1);
        is(x, 0, 0, 0, 0);
        // 64 by 11: 5 ticks leave 9, the sixth would be 2 below
        x = tipped("sea 20 0;boat 30 1 1 20;hand 0 150 60;hand 0 150 60;", 1, 2, 2);
        x.go(5, 1);
        is(x, 0, 4, 0, 9);
        x.go(1, 1);
        is(x, 0, 0, 0, 0);
        // 46 by 9: 5 ticks leave 1
        x = tipped("sea 20 0;boat 30 1 4 20;hand 0 150 60;", 1, 2);
        x.go(5, 1);
        is(x, 0, 4, 0, 1);
        x.go(1, 1);
        is(x, 0, 0, 0, 0);
        x.go(1, 1);
        is(x, 0, 0, 0, 0);
    }

    private static void asBegan() {
        Doc.says("SIDED (as the TICK began):");
        // she tips, and he on the board, who is enough, waits for the next tick
        OverInDinghy x = Check.of("sea 20 40;boat 30 5 0 0;hand 0 150 60;hand 0 20 60;");
        x.place(0, 2);
        x.place(1, 3);
        x.go(1, 1);
        is(x, 0, 1, 0, 0);
        x.go(1, 1);
        is(x, 0, 4, 0, 70);
        Check.due("no bailing as she comes up", x.boat(0, 2), 70);
    }

    private static void need() {
        Doc.says("NEED: 10 times SAIL, and MAST, and 2 times WIND, if nobody who can is at the bow;");
        OverInDinghy x = Check.of("sea 20 1;boat 1 7 0 15;boat 1 7 0 15;hand 0 50 60;hand 0 50 1;hand 1 50 60;");
        Check.due("dry", x.boat(0, 3), 72);
        x.tip(0);
        x.place(2, 3);
        Check.due("another boat's bow", x.boat(0, 3), 72);
        x.place(0, 3);
        Check.due("one at the bow", x.boat(0, 3), 70);
        x.place(1, 3);
        Check.due("two at the bow", x.boat(0, 3), 70);
        x.place(0, 1);
        Check.due("the other alone", x.boat(0, 3), 70);
        x.go(2, 1);
        Check.due("a mast of 10", x.boat(0, 3), 80);
        x.go(5, 1);
        Check.due("he can't any more", x.hand(1, 3), 0);
        Check.due("he is still there", x.hand(1, 2), 3);
        Check.due("a mast of 35, and the wind", x.boat(0, 3), 107);
    }

    private static void lever() {
        Doc.says("LEVER: the WEIGHT of HANDS on the board who can, times BEAM, by 10.");
        OverInDinghy x = Check.of("sea 20 0;boat 7 30 0 20;boat 30 1 0 20;hand 0 57 60;hand 0 50 1;hand 1 50 60;hand 0 40 60;");
        x.tip(0);
        Check.due("none", x.boat(0, 4), 0);
        x.place(2, 2);
        Check.due("another boat's", x.boat(0, 4), 0);
        x.place(0, 2);
        // 399 by 10
        Check.due("57 times 7 by 10", x.boat(0, 4), 39);
        x.place(1, 2);
        x.place(3, 3);
        // one sum, then by 10: 749, not 399 by 10 and 350 by 10
        Check.due("107 times 7 by 10", x.boat(0, 4), 74);
        x.place(3, 2);
        Check.due("147 times 7 by 10", x.boat(0, 4), 102);
        x.go(7, 1);
        Check.due("97 times 7 by 10", x.boat(0, 4), 67);
    }

    private static void comesUp() {
        Doc.says("NEED no more than LEVER: she comes up: FULL, WATER 70 less 6 times AIR, MAST 0, all HANDS on the board are in her;");
        OverInDinghy x = tipped("sea 20 0;boat 10 5 9 20;hand 0 50 60;", 1, 2);
        is(x, 0, 4, 0, 16);
        Check.due("in her", x.hand(0, 2), 0);
        x = tipped("sea 20 0;boat 10 5 9 20;hand 0 49 60;", 1, 2);
        is(x, 0, 1, 0, 0);
        Check.due("still on the board", x.hand(0, 2), 2);
        x = tipped("sea 20 0;boat 10 5 0 20;hand 0 51 60;", 1, 2);
        is(x, 0, 4, 0, 70);
        // from a mast of 30
        x = Check.of("sea 20 0;boat 10 5 2 5;hand 0 80 60;hand 0 80 60;hand 0 80 60;hand 0 20 1;");
        x.tip(0);
        x.place(3, 2);
        x.go(2, 1);
        is(x, 0, 1, 30, 0);
        x.place(0, 2);
        x.place(1, 3);
        x.go(1, 1);
        is(x, 0, 4, 0, 58);
        Check.due("from the board", x.hand(0, 2), 0);
        Check.due("the bow stays", x.hand(1, 2), 3);
        Check.due("the water stays", x.hand(2, 2), 1);
        Check.due("from the board, too", x.hand(3, 2), 0);
        // who can't comes in with her
        x = Check.of("sea 20 0;boat 10 5 2 20;hand 0 80 60;hand 0 20 1;");
        x.tip(0);
        x.place(1, 2);
        x.go(7, 1);
        Check.due("he can't", x.hand(1, 3), 0);
        x.place(0, 2);
        x.go(1, 1);
        Check.due("he is in her", x.hand(1, 2), 0);
    }

    private static void again() {
        Doc.says("and if nobody who can is at the bow: a draw: the rest of X by 100 below 2 times WIND: "
                + "she is SIDED again, MAST 0, WATER 0, all HANDS in her in the water.");
        // by seed 2 the rest is 14; by seed 100 it is 0, by seed 57 it is 99
        OverInDinghy x = tipped("sea 20 7;boat 30 1 9 0;hand 0 150 60;", 2, 2);
        is(x, 0, 4, 0, 16);
        Check.due("in her", x.hand(0, 2), 0);
        Check.due("once", x.boat(0, 6), 1);
        x = tipped("sea 20 8;boat 30 1 9 0;hand 0 150 60;hand 0 20 60;", 2, 2, 1);
        is(x, 0, 1, 0, 0);
        Check.due("in the water", x.hand(0, 2), 1);
        Check.due("twice", x.boat(0, 6), 2);
        x = tipped("sea 20 0;boat 30 1 9 0;hand 0 150 60;", 100, 2);
        is(x, 0, 4, 0, 16);
        x = tipped("sea 20 1;boat 30 1 9 0;hand 0 150 60;", 100, 2);
        is(x, 0, 1, 0, 0);
        x = tipped("sea 20 40;boat 30 1 9 0;hand 0 150 60;", 57, 2);
        is(x, 0, 4, 0, 16);
        // 80 is not below 80, 79 is: by seeds 40 and 97
        x = tipped("sea 20 40;boat 30 1 9 0;hand 0 150 60;", 40, 2);
        is(x, 0, 4, 0, 16);
        x = tipped("sea 20 40;boat 30 1 9 0;hand 0 150 60;", 97, 2);
        is(x, 0, 1, 0, 0);
        // in no wind, too, it is a draw: the next boat's gust is by the second, 9, not by 7
        x = Check.of("sea 20 0;boat 30 1 0 20;boat 1 1 0 20;hand 0 150 60;hand 0 20 60;");
        x.tip(0);
        x.place(0, 2);
        x.go(1, 23);
        // 23: 161, its rest by 10 is 1; the second X of 386561 is 6496930727 less 3 times 2147483647: 54479786: 6
        is(x, 0, 4, 0, 70);
        Check.due("above 5", x.boat(1, 0), 1);
        // who can't holds no bow
        x = Check.of("sea 20 40;boat 30 1 0 20;hand 0 150 60;hand 0 20 1;");
        x.tip(0);
        x.place(1, 3);
        x.go(7, 1);
        Check.due("he can't", x.hand(1, 3), 0);
        x.place(0, 2);
        x.go(1, 1);
        is(x, 0, 1, 0, 0);
        Check.due("again", x.boat(0, 6), 2);
        Check.due("he stays there", x.hand(1, 2), 3);
    }

    private static void bowHeld() {
        Doc.says("if nobody who can is at the bow:");
        // one at the bow: never over again, and no draw: the second boat has the first, 1, and holds
        OverInDinghy x = Check.of("sea 20 0;boat 30 1 0 20;boat 1 1 0 20;hand 0 150 60;hand 0 20 60;");
        x.tip(0);
        x.place(0, 2);
        x.place(1, 3);
        x.go(1, 23);
        is(x, 0, 4, 0, 70);
        is(x, 1, 0, 0, 0);
        x = tipped("sea 20 40;boat 30 1 9 0;hand 0 150 60;hand 0 20 60;", 100, 2, 3);
        is(x, 0, 4, 0, 16);
    }

    private static void mast() {
        Doc.says("Else MAST is more by 20 less FLOAT;");
        for (int floats = 0; floats <= 20; floats++) {
            OverInDinghy x = tipped("sea 20 0;boat 1 1 0 " + floats + ";", 1);
            is(x, 0, 1, 20 - floats, 0);
            x.go(3, 1);
            is(x, 0, 1, 80 - 4 * floats, 0);
        }
        // not while she comes up
        OverInDinghy y = tipped("sea 20 0;boat 30 1 0 0;hand 0 150 60;", 1, 2);
        is(y, 0, 4, 0, 70);
    }

    private static void round() {
        Doc.says("at 100 (no more) TURNED, where there is mud STUCK.");
        String[] mud = {"", " mud"};
        for (int m = 0; m < 2; m++) {
            // 5 times 20 is just 100; 15 times 7 is 105; 99 and 1
            int[][] cases = {{0, 4, 80}, {13, 14, 98}, {19, 99, 99}, {1, 5, 95}, {10, 9, 90}};
            for (int[] c : cases) {
                OverInDinghy x = Check.of("sea 20 0" + mud[m] + ";boat 1 1 0 " + c[0] + ";");
                x.tip(0);
                for (int tick = 0; tick < c[1]; tick++) {
                    x.go(1, 1);
                }
                is(x, 0, 1, c[2], 0);
                x.go(1, 1);
                is(x, 0, 2 + m, 100, 0);
                x.go(1, 1);
                is(x, 0, 2 + m, 100, 0);
            }
            OverInDinghy never = Check.of("sea 20 0" + mud[m] + ";boat 1 1 0 20;");
            never.tip(0);
            never.go(60, 1);
            never.go(60, 1);
            is(never, 0, 1, 0, 0);
        }
    }

    private static OverInDinghy turnedOver(String sea, int... weights) {
        StringBuilder text = new StringBuilder(sea).append("boat 10 1 0 0;");
        for (int w : weights) {
            text.append("hand 0 ").append(w).append(" 60;");
        }
        OverInDinghy x = Check.of(text.toString());
        x.tip(0);
        x.go(5, 10);
        for (int h = 0; h < weights.length; h++) {
            x.place(h, 2);
        }
        return x;
    }

    private static void turned() {
        Doc.says("TURNED: if 2 times NEED is no more than LEVER, she is SIDED, MAST 50.");
        OverInDinghy x = turnedOver("sea 20 0;", 110, 109);
        is(x, 0, 2, 100, 0);
        Check.due("need", x.boat(0, 3), 110);
        x.go(1, 10);
        is(x, 0, 2, 100, 0);
        x = turnedOver("sea 20 0;", 110, 110);
        x.go(1, 10);
        is(x, 0, 1, 50, 0);
        Check.due("they stay on the board", x.hand(0, 2), 2);
        Check.due("sided from turned, too", x.boat(0, 6), 2);
        x.go(1, 10);
        is(x, 0, 4, 0, 70);
        // wind counts, and the bow
        x = turnedOver("sea 20 1;", 110, 113);
        x.go(1, 10);
        is(x, 0, 2, 100, 0);
        x = turnedOver("sea 20 1;", 110, 114);
        x.go(1, 10);
        is(x, 0, 1, 50, 0);
        x = turnedOver("sea 20 1;", 110, 110, 20);
        x.place(2, 3);
        x.go(1, 10);
        is(x, 0, 1, 50, 0);
    }

    private static void stuck() {
        Doc.says("STUCK: if 3 times NEED is no more than LEVER, she is TURNED.");
        OverInDinghy x = turnedOver("sea 20 0 mud;", 110, 110, 109);
        is(x, 0, 3, 100, 0);
        x.go(1, 10);
        is(x, 0, 3, 100, 0);
        x = turnedOver("sea 20 0 mud;", 110, 110, 110);
        x.go(1, 10);
        is(x, 0, 2, 100, 0);
        Check.due("that is not sided", x.boat(0, 6), 1);
        Check.due("they stay on the board", x.hand(0, 2), 2);
        x.go(1, 10);
        is(x, 0, 1, 50, 0);
        x.go(1, 10);
        is(x, 0, 4, 0, 70);
    }

    private static void cold() {
        Doc.says("Then each HAND of hers who is not in her, or in her while she is FULL: GRIP becomes less by 1000 by (6 times LASTS),");
        // 1000 by 30 is 33
        OverInDinghy x = Check.of("sea 30 0;boat 30 1 9 20;hand 0 150 5;hand 0 50 5;hand 0 50 5;hand 0 50 5;");
        x.place(1, 1);
        x.place(2, 2);
        x.place(3, 3);
        x.go(1, 1);
        Check.due("in her while she is up", x.hand(0, 3), 1000);
        for (int h = 1; h < 4; h++) {
            Check.due("not in her", x.hand(h, 3), 967);
        }
        // she comes up full by this tick, is full in the next, and dry behind the third
        x = tipped("sea 30 0;boat 30 1 6 20;hand 0 150 5;hand 0 150 5;hand 0 150 60;", 1, 2, 2);
        is(x, 0, 4, 0, 34);
        Check.due("full now", x.hand(0, 3), 967);
        x.go(1, 1);
        is(x, 0, 4, 0, 18);
        Check.due("full still", x.hand(0, 3), 934);
        x.go(1, 1);
        is(x, 0, 4, 0, 2);
        Check.due("full still", x.hand(0, 3), 901);
        x.go(1, 1);
        is(x, 0, 0, 0, 0);
        Check.due("up now", x.hand(0, 3), 901);
        Check.due("beside all the while", x.hand(2, 3), 992);
        // she tips by this tick: they are not in her now
        x = Check.of("sea 30 40;boat 1 30 0 20;boat 30 1 0 0;hand 0 150 5;hand 1 150 5;");
        x.go(1, 1);
        is(x, 0, 1, 0, 0);
        Check.due("tipped", x.hand(0, 3), 967);
        Check.due("the other boat's", x.hand(1, 3), 1000);
        // each by his own: 1000 by 6, by 360
        x = Check.of("sea 30 0;boat 30 1 9 20;hand 0 150 1;hand 0 50 60;");
        x.tip(0);
        x.go(1, 1);
        Check.due("lasts 1", x.hand(0, 3), 1000 - 166);
        Check.due("lasts 60", x.hand(1, 3), 1000 - 2);
    }

    private static void colder() {
        Doc.says("and half of that (cut) where WARMTH is below 10;");
        int[] warmths = {0, 9, 10, 30};
        int[] lasts = {1, 5, 6, 60, 55};
        int[] less = {166, 33, 27, 2, 3};
        int[] half = {83, 16, 13, 1, 1};
        for (int warmth : warmths) {
            for (int i = 0; i < lasts.length; i++) {
                OverInDinghy x = tipped("sea " + warmth + " 0;boat 30 1 9 20;hand 0 150 " + lasts[i] + ";", 1);
                Check.due("warmth " + warmth + ", lasts " + lasts[i], x.hand(0, 3), 1000 - less[i] - (warmth < 10 ? half[i] : 0));
            }
        }
    }

    private static void leastGrip() {
        Doc.says("0 at least.");
        // 50 ticks of 20 are just 1000; 7 of 166 are more
        OverInDinghy x = Check.of("sea 20 0;boat 1 1 0 20;hand 0 50 8;hand 0 50 1;");
        x.tip(0);
        x.go(6, 1);
        Check.due("4", x.hand(1, 3), 4);
        x.go(1, 1);
        Check.due("not below 0", x.hand(1, 3), 0);
        x.go(42, 1);
        Check.due("20", x.hand(0, 3), 20);
        x.go(1, 1);
        Check.due("just 0", x.hand(0, 3), 0);
        x.go(60, 1);
        Check.due("0 still", x.hand(0, 3), 0);
        Check.due("0 still", x.hand(1, 3), 0);
    }

    private static void place() {
        Doc.says("A HAND goes to a PLACE (0 .. 3): 1.");
        OverInDinghy x = Check.of("sea 20 0;boat 30 1 0 20;hand 0 150 60;hand 0 50 60;");
        for (int from = 0; from < 4; from++) {
            for (int to = 0; to < 4; to++) {
                x.place(0, from);
                Check.due(from + " to " + to, x.place(0, to), 1);
                Check.due("is there", x.hand(0, 2), to);
                Check.due("the other stays", x.hand(1, 2), 0);
            }
        }
        Check.due("no tick", x.count(3), 0);
    }

    private static void placeBad() {
        Doc.says("BAD;");
        OverInDinghy x = Check.of("sea 20 0;boat 30 1 0 20;hand 0 150 60;hand 0 50 60;");
        int[][] bad = {{-1, 0}, {2, 0}, {12, 0}, {0, -1}, {0, 4}, {Integer.MIN_VALUE, 0}, {Integer.MAX_VALUE, 0},
            {0, Integer.MIN_VALUE}, {0, Integer.MAX_VALUE}};
        for (int[] b : bad) {
            Check.due(b[0] + " to " + b[1], x.place(b[0], b[1]), Check.BAD);
        }
        Check.due("in her", x.hand(0, 2), 0);
        Check.due("no hands", Check.of("sea 20 0;boat 30 1 0 20;").place(0, 0), Check.BAD);
    }

    private static void placeState() {
        Doc.says("STATE: he can't, or goes into her while she is not UP, FULL.");
        OverInDinghy x = Check.of("sea 20 0 mud;boat 30 1 0 0;boat 30 1 0 20;hand 0 150 60;hand 0 150 1;hand 1 50 60;");
        x.tip(0);
        Check.due("sided", x.place(0, 0), Check.STATE);
        Check.due("the other boat is up", x.place(2, 0), 1);
        for (int place = 1; place < 4; place++) {
            Check.due("not into her", x.place(0, place), 1);
        }
        x.go(5, 10);
        Check.due("stuck", x.boat(0, 0), 3);
        Check.due("stuck", x.place(0, 0), Check.STATE);
        x.place(0, 2);
        x.go(1, 10);
        Check.due("turned", x.boat(0, 0), 2);
        Check.due("turned", x.place(0, 0), Check.STATE);
        x.go(1, 10);
        Check.due("sided again", x.boat(0, 0), 1);
        x.go(1, 10);
        Check.due("full", x.boat(0, 0), 4);
        x.place(0, 1);
        Check.due("full", x.place(0, 0), 1);
        for (int place = 0; place < 4; place++) {
            Check.due("he can't", x.place(1, place), Check.STATE);
        }
        Check.due("he stays", x.hand(1, 2), 1);
    }

    private static void tip() {
        Doc.says("A BOAT is tipped: SIDED, MAST 0, WATER 0, HANDS in her in the water: 1.");
        OverInDinghy x = Check.of("sea 20 0;boat 30 1 2 20;boat 30 1 2 20;hand 0 150 60;hand 0 50 60;hand 0 50 60;hand 0 50 60;hand 1 50 60;");
        x.place(1, 3);
        x.place(2, 2);
        Check.due("up", x.tip(0), 1);
        is(x, 0, 1, 0, 0);
        int[] at = {1, 3, 2, 1, 0};
        for (int h = 0; h < 5; h++) {
            Check.due("hand " + h, x.hand(h, 2), at[h]);
        }
        is(x, 1, 0, 0, 0);
        x.go(1, 1);
        is(x, 0, 4, 0, 58);
        Check.due("in her", x.hand(2, 2), 0);
        Check.due("full", x.tip(0), 1);
        is(x, 0, 1, 0, 0);
        Check.due("out again", x.hand(2, 2), 1);
        Check.due("twice", x.boat(0, 6), 2);
        Check.due("no tick by it", x.count(3), 1);
    }

    private static void tipBad() {
        Doc.says("BAD;");
        OverInDinghy x = Check.of("sea 20 0;boat 30 1 2 20;boat 30 1 2 20;");
        int[] bad = {-1, 2, 6, Integer.MIN_VALUE, Integer.MAX_VALUE};
        for (int b : bad) {
            Check.due("boat " + b, x.tip(b), Check.BAD);
        }
        Check.due("none is over", x.count(6), 0);
        Check.due("the last", x.tip(1), 1);
    }

    private static void tipState() {
        Doc.says("STATE: she is not UP, FULL.");
        OverInDinghy x = Check.of("sea 20 0;boat 30 1 2 0;");
        x.tip(0);
        Check.due("sided", x.tip(0), Check.STATE);
        x.go(2, 1);
        Check.due("sided", x.tip(0), Check.STATE);
        is(x, 0, 1, 40, 0);
        x.go(3, 1);
        Check.due("turned", x.tip(0), Check.STATE);
        is(x, 0, 2, 100, 0);
        Check.due("once", x.boat(0, 6), 1);
        x = Check.of("sea 20 0 mud;boat 30 1 2 0;");
        x.tip(0);
        x.go(5, 1);
        Check.due("stuck", x.tip(0), Check.STATE);
        is(x, 0, 3, 100, 0);
    }

    private static void go() {
        Doc.says("n TICKS (1 to 60) by a SEED (1 to 999999; X at first): TICKS gone.");
        OverInDinghy x = Check.of("sea 20 0;boat 1 1 0 19;hand 0 150 60;");
        x.tip(0);
        Check.due("1", x.go(1, 1), 1);
        Check.due("60 more", x.go(60, 999999), 61);
        Check.due("so many", x.boat(0, 1), 61);
        Check.due("2 more", x.go(2, 5), 63);
        Check.due("so many", x.boat(0, 1), 63);
        Check.due("count", x.count(3), 63);
        // X begins by the seed each time: a rest of 7 twice, not 7 and 9
        OverInDinghy y = Check.of(holding(42));
        y.go(1, 1);
        y.go(1, 1);
        is(y, 0, 0, 0, 0);
        y.go(2, 1);
        is(y, 0, 1, 0, 0);
    }

    private static void goBad() {
        Doc.says("BAD;");
        OverInDinghy x = Check.of("sea 20 0;boat 1 1 0 19;");
        int[][] bad = {{0, 1}, {61, 1}, {-1, 1}, {1, 0}, {1, 1000000}, {1, -1}, {Integer.MIN_VALUE, 1}, {Integer.MAX_VALUE, 1},
            {1, Integer.MIN_VALUE}, {1, Integer.MAX_VALUE}};
        for (int[] b : bad) {
            Check.due(b[0] + " by " + b[1], x.go(b[0], b[1]), Check.BAD);
        }
        Check.due("none gone", x.count(3), 0);
    }

    private static void goState() {
        Doc.says("STATE: no CLUB (ahead of BAD).");
        OverInDinghy x = new OverInDinghy();
        Check.due("no club", x.go(1, 1), Check.STATE);
        Check.due("ahead of n", x.go(0, 1), Check.STATE);
        Check.due("ahead of the seed", x.go(1, 0), Check.STATE);
        Check.read(x, "sea 99");
        Check.due("none behind a fault", x.go(1, 1), Check.STATE);
    }

    private static void boat() {
        Doc.says("Of a BOAT: 0 how she is (0 UP, 1 SIDED, 2 TURNED, 3 STUCK, 4 FULL), 1 MAST, 2 WATER, 3 NEED, 4 LEVER (both as if SIDED), "
                + "5 WEIGHT in her, 6 how often she became SIDED (from TURNED, too).");
        OverInDinghy x = Check.of("sea 20 1;boat 30 2 3 0;boat 1 1 1 1;hand 0 150 60;hand 0 150 60;hand 1 33 60;");
        long[] up = {0, 0, 0, 22, 0, 300, 0};
        long[] sided = {1, 0, 0, 22, 0, 0, 1};
        long[] turned = {2, 100, 0, 122, 0, 0, 1};
        long[] onBoard = {2, 100, 0, 122, 900, 0, 1};
        long[] back = {1, 50, 0, 72, 900, 0, 2};
        long[] full = {4, 0, 52, 22, 0, 300, 2};
        all(x, up);
        x.tip(0);
        all(x, sided);
        x.go(5, 1);
        all(x, turned);
        x.place(0, 2);
        x.place(1, 2);
        all(x, onBoard);
        x.go(1, 1);
        all(x, back);
        // a rest of 70 is not below 2
        x.go(1, 10);
        all(x, full);
        x.place(0, 3);
        x.place(1, 2);
        Check.due("need of one that is full", x.boat(0, 3), 20);
        Check.due("lever of one that is full", x.boat(0, 4), 450);
        Check.due("the other's", x.boat(1, 5), 33);
        OverInDinghy y = Check.of("sea 20 1 mud;boat 30 2 3 0;hand 0 150 60;");
        y.tip(0);
        y.go(5, 1);
        y.place(0, 2);
        all(y, 3, 100, 0, 122, 450, 0, 1);
    }

    private static void all(OverInDinghy x, long... due) {
        for (int what = 0; what < 7; what++) {
            Check.due("boat(0, " + what + ")", x.boat(0, what), due[what]);
        }
    }

    private static void boatBad() {
        Doc.says(" BAD.");
        OverInDinghy x = Check.of("sea 20 1;boat 30 2 3 0;boat 1 1 1 1;");
        int[][] bad = {{-1, 0}, {2, 0}, {6, 0}, {0, -1}, {0, 7}, {Integer.MIN_VALUE, 0}, {Integer.MAX_VALUE, 0},
            {0, Integer.MIN_VALUE}, {0, Integer.MAX_VALUE}};
        for (int[] b : bad) {
            Check.due(b[0] + ", " + b[1], x.boat(b[0], b[1]), Check.BAD);
        }
        Check.due("the last of all", x.boat(1, 6), 0);
    }

    private static void hand() {
        Doc.says("Of a HAND: 0 BOAT, 1 WEIGHT, 2 PLACE, 3 GRIP.");
        OverInDinghy x = Check.of("sea 20 1;boat 30 2 3 0;boat 1 1 1 1;hand 1 20 60;hand 0 150 1;");
        x.place(1, 3);
        x.go(1, 10);
        long[][] due = {{1, 20, 0, 1000}, {0, 150, 3, 834}};
        for (int h = 0; h < 2; h++) {
            for (int what = 0; what < 4; what++) {
                Check.due("hand(" + h + ", " + what + ")", x.hand(h, what), due[h][what]);
            }
        }
    }

    private static void handBad() {
        Doc.says(" BAD.");
        OverInDinghy x = Check.of("sea 20 1;boat 30 2 3 0;hand 0 20 60;hand 0 150 1;");
        int[][] bad = {{-1, 0}, {2, 0}, {12, 0}, {0, -1}, {0, 4}, {Integer.MIN_VALUE, 0}, {Integer.MAX_VALUE, 0},
            {0, Integer.MIN_VALUE}, {0, Integer.MAX_VALUE}};
        for (int[] b : bad) {
            Check.due(b[0] + ", " + b[1], x.hand(b[0], b[1]), Check.BAD);
        }
        Check.due("the last of all", x.hand(1, 3), 1000);
    }
}
