/** Promises 9 to 13: place, tip, go, boat, hand. Draws are worked out by hand: X becomes X times 16807. */
public final class TicksTest {
    public static void main(String[] args) {
        place();
        tip();
        goRefuses();
        gusts();
        bails();
        masts();
        comesUp();
        overAgain();
        rollsBack();
        rollsBackByJustEnough();
        lastGrip();
        cold();
        boatAndHand();
        Check.end();
    }

    private static void is(OverInDinghy x, int boat, long how, long mast, long water) {
        Check.due("11: how boat " + boat + " is", x.boat(boat, 0), how);
        Check.due("11: mast of " + boat, x.boat(boat, 1), mast);
        Check.due("11: water of " + boat, x.boat(boat, 2), water);
    }

    private static void place() {
        OverInDinghy x = new OverInDinghy();
        Check.due("9: no club", x.place(0, 0), Check.BAD);
        x = Check.of("sea 20 0;boat 10 1 9 0;hand 0 50 1;hand 0 50 60;");
        Check.due("9: hand -1", x.place(-1, 0), Check.BAD);
        Check.due("9: hand 2", x.place(2, 0), Check.BAD);
        Check.due("9: place -1", x.place(0, -1), Check.BAD);
        Check.due("9: place 4", x.place(0, 4), Check.BAD);
        for (int place = 3; place >= 0; place--) {
            Check.due("9: goes", x.place(0, place), 1);
            Check.due("9: is there", x.hand(0, 2), place);
        }
        x.tip(0);
        Check.due("9: not into a boat that is sided", x.place(0, 0), Check.STATE);
        Check.due("9: stays", x.hand(0, 2), 1);
        Check.due("9: BAD ahead of STATE", x.place(0, 4), Check.BAD);
        x.go(5, 1);
        Check.due("9: turned", x.boat(0, 0), 2);
        Check.due("9: not into a boat that is turned", x.place(0, 0), Check.STATE);
        x.go(1, 1);
        // 1000 by 6 is 166: six ticks leave 4, the seventh none
        Check.due("9: grip", x.hand(0, 3), 4);
        Check.due("9: he still can", x.place(0, 2), 1);
        x.go(1, 1);
        Check.due("9: no grip", x.hand(0, 3), 0);
        Check.due("9: he can't", x.place(0, 1), Check.STATE);
        Check.due("9: stays on the board", x.hand(0, 2), 2);
        x = Check.of("sea 20 0;boat 30 1 0 0;hand 0 150 60;hand 0 50 60;");
        x.tip(0);
        x.place(0, 2);
        x.go(1, 1);
        is(x, 0, 4, 0, 70);
        Check.due("9: into one that is full", x.place(1, 0), 1);
    }

    private static void tip() {
        OverInDinghy x = new OverInDinghy();
        Check.due("10: no club", x.tip(0), Check.BAD);
        x = Check.of("sea 20 0;boat 30 1 2 0;boat 10 5 1 1;hand 0 150 60;hand 0 50 60;hand 1 50 60;hand 0 60 60;");
        Check.due("10: -1", x.tip(-1), Check.BAD);
        Check.due("10: 2", x.tip(2), Check.BAD);
        x.place(1, 3);
        Check.due("10: tips", x.tip(0), 1);
        is(x, 0, 1, 0, 0);
        is(x, 1, 0, 0, 0);
        Check.due("10: in the water", x.hand(0, 2), 1);
        Check.due("10: stays at the bow", x.hand(1, 2), 3);
        Check.due("10: another boat's stays", x.hand(2, 2), 0);
        Check.due("10: in the water, too", x.hand(3, 2), 1);
        Check.due("10: sided once", x.boat(0, 6), 1);
        Check.due("10: again", x.tip(0), Check.STATE);
        Check.due("10: no tick", x.count(3), 0);
        x.place(0, 2);
        x.go(1, 1);
        is(x, 0, 4, 0, 58);
        Check.due("10: one that is full", x.tip(0), 1);
        is(x, 0, 1, 0, 0);
        x.go(5, 1);
        is(x, 0, 2, 100, 0);
        Check.due("10: one that is turned", x.tip(0), Check.STATE);
        x = Check.of("sea 20 0 mud;boat 30 1 2 0;");
        x.tip(0);
        x.go(5, 1);
        is(x, 0, 3, 100, 0);
        Check.due("10: one that is stuck", x.tip(0), Check.STATE);
    }

    private static void goRefuses() {
        OverInDinghy x = new OverInDinghy();
        Check.due("11: STATE ahead of BAD", x.go(0, 0), Check.STATE);
        x = Check.of("sea 20 0;boat 30 1 2 0;");
        Check.due("11: n 0", x.go(0, 1), Check.BAD);
        Check.due("11: n 61", x.go(61, 1), Check.BAD);
        Check.due("11: seed 0", x.go(1, 0), Check.BAD);
        Check.due("11: seed 1000000", x.go(1, 1000000), Check.BAD);
        Check.due("11: none gone", x.count(3), 0);
        Check.due("11: one", x.go(1, 999999), 1);
        Check.due("11: in all", x.go(60, 1), 61);
        Check.due("11: count", x.count(3), 61);
    }

    private static void gusts() {
        // by seed 1 X is 16807, then 282475249, 1622650073, 984943658: rests by 10: 7, 9, 3, 8
        OverInDinghy x = Check.of("sea 20 3;boat 6 10 0 20;hand 0 70 60;");
        // 10 times 10 is 100, no more than 70 and 30
        x.go(1, 1);
        is(x, 0, 0, 0, 0);
        Check.read(x, "sea 20 3;boat 6 10 0 20;hand 0 69 60;");
        x.go(1, 1);
        is(x, 0, 1, 0, 0);
        Check.due("11: tipped, in the water", x.hand(0, 2), 1);
        Check.due("11: sided once", x.boat(0, 6), 1);
        // the second draw is 9: one boat after the other, and tick by tick
        Check.read(x, "sea 20 3;boat 6 10 0 20;boat 6 10 0 20;hand 0 70 60;hand 1 89 60;");
        x.go(1, 1);
        is(x, 0, 0, 0, 0);
        is(x, 1, 1, 0, 0);
        Check.read(x, "sea 20 3;boat 6 10 0 20;hand 0 89 60;");
        x.go(2, 1);
        is(x, 0, 1, 0, 0);
        Check.read(x, "sea 20 3;boat 6 10 0 20;hand 0 90 60;");
        x.go(4, 1);
        is(x, 0, 0, 0, 0);
        // hands who are not in her do not hold her
        Check.read(x, "sea 20 3;boat 6 10 0 20;hand 0 90 60;");
        x.place(0, 2);
        x.go(1, 1);
        is(x, 0, 1, 0, 0);
        Check.due("11: he stays on the board", x.hand(0, 2), 2);
        // a boat that lies draws nothing: the second one has the first draw
        Check.read(x, "sea 20 3;boat 6 10 0 20;boat 6 10 0 20;hand 0 70 60;hand 1 70 60;");
        x.tip(0);
        x.go(1, 1);
        is(x, 1, 0, 0, 0);
    }

    private static void bails() {
        OverInDinghy x = Check.of("sea 20 0;boat 30 1 3 0;hand 0 150 60;hand 0 50 60;hand 0 50 60;");
        x.tip(0);
        x.place(0, 2);
        x.place(1, 2);
        x.go(1, 1);
        is(x, 0, 4, 0, 52);
        Check.due("11: on the board, so in her", x.hand(1, 2), 0);
        Check.due("11: beside stays beside", x.hand(2, 2), 1);
        x.go(1, 1);
        is(x, 0, 4, 0, 39);
        x.place(2, 0);
        x.go(1, 1);
        is(x, 0, 4, 0, 21);
        x.go(1, 1);
        is(x, 0, 4, 0, 3);
        x.go(1, 1);
        is(x, 0, 0, 0, 0);
        // water makes her less steady: 9 and 7 times 5 above 20 and 5 times 20 less 58 or 46
        x = Check.of("sea 20 0;boat 20 5 2 0;hand 0 150 1;");
        x.tip(0);
        x.place(0, 2);
        x.go(1, 1);
        is(x, 0, 4, 0, 58);
        x.place(0, 1);
        x.go(1, 2);
        // by seed 2 the first draw is 33614: a gust of 4: 20 is no more than 100 less 58: air alone bails
        is(x, 0, 4, 0, 56);
        x.go(1, 1);
        // a gust of 7: 35 is no more than 44
        is(x, 0, 4, 0, 54);
        x = Check.of("sea 20 1;boat 20 9 2 20;hand 0 150 1;");
        x.tip(0);
        x.place(0, 2);
        x.go(1, 2);
        is(x, 0, 4, 0, 58);
        x.place(0, 1);
        x.go(1, 2);
        // 5 times 9 is above 100 less 58
        is(x, 0, 1, 0, 0);
        Check.due("11: twice", x.boat(0, 6), 2);
    }

    private static void masts() {
        OverInDinghy x = Check.of("sea 20 0;boat 1 1 0 13;boat 1 1 0 20;boat 1 1 0 19;");
        x.tip(0);
        x.tip(1);
        x.tip(2);
        x.go(14, 1);
        is(x, 0, 1, 98, 0);
        x.go(1, 1);
        is(x, 0, 2, 100, 0);
        is(x, 1, 1, 0, 0);
        is(x, 2, 1, 15, 0);
        x.go(60, 1);
        is(x, 1, 1, 0, 0);
        is(x, 0, 2, 100, 0);
    }

    private static void comesUp() {
        // need 10 times 5 and 2 times 6; lever 62 times 10 by 10
        OverInDinghy x = Check.of("sea 20 6;boat 10 5 9 20;hand 0 62 60;");
        x.tip(0);
        x.place(0, 2);
        Check.due("12: need", x.boat(0, 3), 62);
        Check.due("12: lever", x.boat(0, 4), 62);
        // the first draw by seed 1 is 16807: its rest by 100 is 7, below 12: over again
        x.image(0);
        x.go(1, 1);
        is(x, 0, 1, 0, 0);
        Check.due("11: over again: in the water", x.hand(0, 2), 1);
        Check.due("12: sided twice", x.boat(0, 6), 2);
        x.restore(0);
        // by seed 2 it is 33614: 14
        x.go(1, 2);
        is(x, 0, 4, 0, 16);
        Check.due("11: in her", x.hand(0, 2), 0);
        // 14 is not below 2 times 7, but below 2 times 8
        Check.read(x, "sea 20 7;boat 10 5 9 20;hand 0 64 60;");
        x.tip(0);
        x.place(0, 2);
        x.go(1, 2);
        is(x, 0, 4, 0, 16);
        Check.read(x, "sea 20 8;boat 10 5 9 20;hand 0 66 60;");
        x.tip(0);
        x.place(0, 2);
        x.go(1, 2);
        is(x, 0, 1, 0, 0);
        Check.read(x, "sea 20 6;boat 10 5 9 19;hand 0 61 60;");
        x.tip(0);
        x.place(0, 2);
        x.go(1, 2);
        is(x, 0, 1, 1, 0);
    }

    private static void overAgain() {
        // who holds the bow takes the wind from her, and there is no draw
        OverInDinghy x = Check.of("sea 20 40;boat 10 5 0 0;boat 30 1 0 0;hand 0 50 60;hand 0 20 60;hand 1 150 60;hand 1 150 60;hand 1 150 60;");
        x.tip(0);
        x.place(0, 2);
        x.place(1, 3);
        Check.due("12: need", x.boat(0, 3), 50);
        // the draw is the second boat's: a gust of 47 is no more than 450 and 150
        x.go(1, 1);
        is(x, 0, 4, 0, 70);
        is(x, 1, 0, 0, 0);
        Check.due("11: the bow stays at the bow", x.hand(1, 2), 3);
        // who can't holds no bow
        x = Check.of("sea 20 1;boat 10 5 0 20;hand 0 52 60;hand 0 20 1;");
        x.tip(0);
        x.place(1, 3);
        x.go(7, 1);
        Check.due("11: cold", x.hand(1, 3), 0);
        Check.due("12: need", x.boat(0, 3), 52);
        x.place(0, 2);
        x.go(1, 2);
        is(x, 0, 4, 0, 70);
        // who can't is no lever, but comes in with her
        x = Check.of("sea 20 0;boat 2 5 0 20;hand 0 150 60;hand 0 120 1;hand 0 150 60;");
        x.tip(0);
        x.place(1, 2);
        x.go(7, 1);
        Check.due("12: no lever of who can't", x.boat(0, 4), 0);
        x.place(0, 2);
        x.place(2, 2);
        x.go(1, 1);
        is(x, 0, 4, 0, 70);
        Check.due("11: all on the board are in her", x.hand(1, 2), 0);
        // and does not bail
        x.go(1, 1);
        is(x, 0, 4, 0, 60);
    }

    private static void rollsBack() {
        // need of one that is turned 10 and 100 and 2; twice 224, three times 336
        OverInDinghy x = Check.of("sea 20 1;boat 10 1 0 0;hand 0 100 60;hand 0 123 60;hand 0 112 60;hand 0 24 60;");
        x.tip(0);
        x.go(5, 1);
        is(x, 0, 2, 100, 0);
        Check.due("12: need", x.boat(0, 3), 112);
        x.place(0, 2);
        x.place(1, 2);
        x.go(1, 1);
        is(x, 0, 2, 100, 0);
        x.place(3, 2);
        x.place(0, 2);
        x.go(1, 1);
        is(x, 0, 1, 50, 0);
        Check.due("12: sided from turned, too", x.boat(0, 6), 2);
        x.go(1, 2);
        is(x, 0, 4, 0, 70);
        Check.read(x, "sea 20 1 mud;boat 10 1 0 0;hand 0 100 60;hand 0 123 60;hand 0 112 60;hand 0 24 60;");
        x.tip(0);
        x.go(5, 1);
        is(x, 0, 3, 100, 0);
        x.place(0, 2);
        x.place(1, 2);
        x.place(2, 2);
        x.go(1, 1);
        is(x, 0, 3, 100, 0);
        x.place(3, 2);
        x.go(1, 1);
        is(x, 0, 2, 100, 0);
        Check.due("12: still once", x.boat(0, 6), 1);
        x.go(1, 1);
        is(x, 0, 1, 50, 0);
        x.go(1, 2);
        is(x, 0, 4, 0, 70);
    }

    private static void rollsBackByJustEnough() {
        OverInDinghy x = Check.of("sea 20 1;boat 10 1 0 0;hand 0 112 60;hand 0 112 60;");
        x.tip(0);
        x.go(5, 1);
        x.place(0, 2);
        x.place(1, 2);
        x.go(1, 1);
        is(x, 0, 1, 50, 0);
        x = Check.of("sea 20 1 mud;boat 10 1 0 0;hand 0 112 60;hand 0 112 60;hand 0 112 60;");
        x.tip(0);
        x.go(5, 1);
        x.place(0, 2);
        x.place(1, 2);
        x.place(2, 2);
        x.go(1, 1);
        is(x, 0, 2, 100, 0);
    }

    /** 37 ticks of 27 leave a grip of 1: he still can. */
    private static void lastGrip() {
        OverInDinghy x = Check.of("sea 10 0;boat 10 5 0 20;hand 0 60 6;hand 0 60 60;");
        x.tip(0);
        x.go(37, 1);
        Check.due("13: grip", x.hand(0, 3), 1);
        Check.due("30: all can", x.count(5), 0);
        Check.due("14: three sets", x.rights(0, 0, -1, -1), 3);
        Check.due("9: goes", x.place(0, 3), 1);
        Check.due("9: goes on", x.place(0, 2), 1);
        Check.due("12: lever", x.boat(0, 4), 60);
        Check.due("18: one more", x.tries(0, 60), 1);
        x.go(1, 1);
        is(x, 0, 4, 0, 70);
        Check.due("13: none", x.hand(0, 3), 0);
        x = Check.of("sea 10 1;boat 10 5 0 20;hand 0 60 6;");
        x.tip(0);
        x.place(0, 3);
        x.go(37, 1);
        Check.due("12: he holds the bow", x.boat(0, 3), 50);
        x.go(1, 1);
        Check.due("12: no more", x.boat(0, 3), 52);
    }

    private static void cold() {
        // 1000 by 36 is 27; where it is colder than 10, 13 more
        OverInDinghy x = Check.of("sea 10 0;boat 30 1 0 20;hand 0 50 6;hand 0 50 6;hand 0 50 6;hand 0 50 6;");
        x.place(1, 1);
        x.place(2, 2);
        x.place(3, 3);
        x.go(1, 1);
        Check.due("13: in her", x.hand(0, 3), 1000);
        for (int h = 1; h < 4; h++) {
            Check.due("13: not in her", x.hand(h, 3), 973);
        }
        Check.read(x, "sea 9 0;boat 30 1 0 20;hand 0 50 6;hand 0 50 60;");
        x.tip(0);
        x.place(0, 2);
        x.go(1, 1);
        Check.due("13: in her while she is full", x.hand(0, 3), 960);
        Check.due("13: 2 and 1", x.hand(1, 3), 997);
        x.go(13, 1);
        is(x, 0, 4, 0, 5);
        Check.due("13: still full", x.hand(0, 3), 440);
        x.go(1, 1);
        is(x, 0, 0, 0, 0);
        Check.due("13: up by the tick's end: no more", x.hand(0, 3), 440);
        x.go(60, 1);
        Check.due("13: dry", x.hand(0, 3), 440);
        x.tip(0);
        x.go(11, 1);
        Check.due("13: 0 is the least", x.hand(0, 3), 0);
        Check.due("30: who can't", x.count(5), 1);
        x.go(60, 1);
        Check.due("13: 0 is the least", x.hand(0, 3), 0);
    }

    private static void boatAndHand() {
        OverInDinghy x = Check.of("sea 10 4;boat 7 3 0 15;boat 9 1 1 1;hand 1 55 6;hand 0 50 6;hand 0 37 6;");
        Check.due("12: -1", x.boat(-1, 0), Check.BAD);
        Check.due("12: 2", x.boat(2, 0), Check.BAD);
        Check.due("12: what -1", x.boat(0, -1), Check.BAD);
        Check.due("12: what 7", x.boat(0, 7), Check.BAD);
        Check.due("12: need of one that is up", x.boat(0, 3), 38);
        Check.due("12: weight in her", x.boat(0, 5), 87);
        Check.due("12: weight in the other", x.boat(1, 5), 55);
        x.place(1, 2);
        x.place(2, 2);
        // 87 times 7 is 609, by 10
        Check.due("12: lever of one that is up", x.boat(0, 4), 60);
        Check.due("12: nobody in her", x.boat(0, 5), 0);
        x.place(2, 3);
        Check.due("12: need with one at the bow", x.boat(0, 3), 30);
        Check.due("12: lever of one", x.boat(0, 4), 35);
        Check.due("12: the other's need", x.boat(1, 3), 18);
        Check.due("13: -1", x.hand(-1, 0), Check.BAD);
        Check.due("13: 3", x.hand(3, 0), Check.BAD);
        Check.due("13: what -1", x.hand(0, -1), Check.BAD);
        Check.due("13: what 4", x.hand(0, 4), Check.BAD);
        Check.due("13: boat", x.hand(0, 0), 1);
        Check.due("13: weight", x.hand(2, 1), 37);
        Check.due("13: place", x.hand(2, 2), 3);
        Check.due("13: grip", x.hand(2, 3), 1000);
    }
}
