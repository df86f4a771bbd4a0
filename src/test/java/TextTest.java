/** Promises 6 to 8: feed, club, fault. */
public final class TextTest {
    private static final String SEA = "sea 5 5;";
    private static final String BOAT = "boat 1 1 1 1;";

    public static void main(String[] args) {
        feed();
        good();
        cannotStand();
        notAsTold();
        tooMany();
        faultStays();
        nothingOld();
        Check.end();
    }

    private static void feed() {
        OverInDinghy x = new OverInDinghy();
        Check.due("6: 0", x.feed(0, 0), Check.BAD);
        Check.due("6: 9", x.feed(0, 9), Check.BAD);
        Check.due("6: -1", x.feed(0, -1), Check.BAD);
        Check.due("6: the lowest byte alone", x.feed(0x7373737373737373L, 1), 1);
        Check.due("6: the highest first", x.feed(0x1100000000006561L, 2), 3);
        Check.due("6: count", x.count(4), 3);
        Check.feed(x, " 5 5;boat 1 1 1 1;");
        Check.due("6: read as fed", x.club(), 1);
        Check.due("6: empty then", x.count(4), 0);
        for (int i = 1; i <= 49; i++) {
            Check.due("6: fill", x.feed(0x2020202020202020L, 8), 8 * i);
        }
        Check.due("6: 397", x.feed(0x2020202020L, 5), 397);
        Check.due("6: FULL", x.feed(0x20202020L, 4), Check.FULL);
        Check.due("6: BAD ahead of FULL", x.feed(0x20202020L, 9), Check.BAD);
        Check.due("6: none came", x.count(4), 397);
        Check.due("6: 400", x.feed(0x202020L, 3), 400);
        Check.due("6: FULL by one", x.feed(0x20, 1), Check.FULL);
        Check.due("7: the end is how many bytes there are", x.club(), Check.NOT - 500);
        Check.due("6: room again", x.feed(0x20, 1), 1);
    }

    private static void reads(String text, long boats) {
        Check.due("7: " + text, Check.read(new OverInDinghy(), text), boats);
    }

    private static void good() {
        reads("sea 0 0;boat 1 1 0 0;", 1);
        reads("sea 30 40 mud;boat 30 30 9 20;hand 0 20 1;hand 0 150 60;", 1);
        reads("\n sea\n30 40\nmud ;\nboat 030 30 9 020 ;hand 000 020 001;\n ", 1);
        reads("sea5 5;boat1 1 1 1;", 1);
        reads("sea 5 5mud;boat 1 1 1 1;", 1);
        StringBuilder most = new StringBuilder(SEA);
        for (int b = 0; b < 6; b++) {
            most.append(BOAT);
        }
        for (int h = 0; h < 12; h++) {
            most.append("hand ").append(h / 4).append(" 20 1;");
        }
        reads(most.toString(), 6);
        OverInDinghy x = Check.of("sea 7 13 mud;boat 10 9 8 7;boat 3 4 5 6;hand 1 60 30;hand 0 70 20;hand 1 80 10;");
        Check.due("7: boats", x.count(1), 2);
        Check.due("7: hands", x.count(2), 3);
        Check.due("7: wind", x.count(7), 13);
        Check.due("7: tick 0", x.count(3), 0);
        Check.due("7: all can", x.count(5), 0);
        Check.due("7: all up", x.count(6), 0);
        long[][] hands = {{1, 60, 0, 1000}, {0, 70, 0, 1000}, {1, 80, 0, 1000}};
        for (int h = 0; h < 3; h++) {
            for (int what = 0; what < 4; what++) {
                Check.due("7: hand " + h, x.hand(h, what), hands[h][what]);
            }
        }
        x.tip(0);
        x.go(5, 9);
        Check.read(x, "sea 7 0;boat 9 8 7 6;boat 3 4 5 6;boat 1 1 1 1;");
        Check.due("7: in place of the one before", x.count(1), 3);
        Check.due("7: no hands", x.count(2), 0);
        Check.due("7: tick 0 again", x.count(3), 0);
        Check.due("7: all up again", x.count(6), 0);
        Check.due("7: never sided", x.boat(0, 6), 0);
    }

    private static void refuses(String text, int fault, int at) {
        OverInDinghy x = new OverInDinghy();
        Check.due("7: " + text, Check.read(x, text), Check.NOT - 100 - at);
        Check.due("8: " + text, x.fault(), fault);
        Check.due("7: empty then: " + text, x.count(4), 0);
        Check.due("7: no club: " + text, x.count(1), 0);
    }

    private static void cannotStand() {
        refuses("", 1, 0);
        refuses("  \n", 1, 3);
        refuses("boat 1 1 1 1;", 1, 0);
        refuses("seas 5 5;", 1, 0);
        refuses("SEA 5 5;", 1, 0);
        refuses("tea 5 5;", 1, 0);
        refuses("seaz 5 5;", 1, 0);
        refuses("sea{5 5;", 1, 3);
        refuses("sea`5 5;", 1, 3);
        refuses("sea 5:5;", 1, 5);
        refuses("sea 5/5;", 1, 5);
        refuses("sea 5 5<", 1, 7);
        refuses("sea; 5 5;", 1, 3);
        refuses("sea five 5;", 1, 4);
        refuses("sea 5;", 1, 5);
        refuses("sea 5 5", 1, 7);
        refuses("sea 5 5  ", 1, 9);
        refuses("sea 5 5 5;", 1, 8);
        refuses("sea 5 5 mud mud;", 1, 12);
        refuses("sea 5 5 mu;", 1, 8);
        refuses(SEA, 1, 8);
        refuses(SEA + "hand 0 50 5;", 1, 8);
        refuses(SEA + "sea 5 5;", 1, 8);
        refuses(SEA + "boat 1 1 1;", 1, 18);
        refuses(SEA + "boat 1 1 1 1 1;", 1, 21);
        refuses(SEA + BOAT + ";", 1, 21);
        refuses(SEA + BOAT + "7", 1, 21);
        refuses(SEA + BOAT + "hand 0 50;", 1, 30);
        refuses(SEA + BOAT + "hand 0 50 5;boat 1 1 1 1;", 1, 33);
        refuses(SEA + BOAT + "hand 0 50 5;mud", 1, 33);
        refuses(SEA + BOAT + "hand 0 50 5", 1, 32);
        refuses("sea 1234 5;", 1, 4);
        refuses("sea 0005 5;", 1, 4);
        refuses("sea 5 5; # boat", 1, 9);
        refuses("sea\t5 5;", 1, 3);
        refuses("sea\r5 5;", 1, 3);
        refuses("sea 5 5\u00e9;", 1, 7);
        refuses("sea 5 5\0;", 1, 7);
        refuses("sea -5 5;", 1, 4);
        // the least of one token's: a fault of the place it stands at is ahead of room
        StringBuilder six = new StringBuilder(SEA);
        for (int b = 0; b < 6; b++) {
            six.append(BOAT);
        }
        refuses(six + "hand 0 50 5;boat 1 1 1 1;", 1, 98);
    }

    private static void notAsTold() {
        refuses("sea 31 0;", 2, 4);
        refuses("sea 999 rock", 2, 4);
        refuses("sea 0 41;", 2, 6);
        refuses(SEA + "boat 0 1 1 1;", 2, 13);
        refuses(SEA + "boat 31 1 1 1;", 2, 13);
        refuses(SEA + "boat 1 0 1 1;", 2, 15);
        refuses(SEA + "boat 1 31 1 1;", 2, 15);
        refuses(SEA + "boat 1 1 10 1;", 2, 17);
        refuses(SEA + "boat 1 1 1 21;", 2, 19);
        refuses(SEA + BOAT + "hand 1 50 5;", 2, 26);
        refuses(SEA + BOAT + "hand 0 19 5;", 2, 28);
        refuses(SEA + BOAT + "hand 0 151 5;", 2, 28);
        refuses(SEA + BOAT + "hand 0 50 0;", 2, 31);
        refuses(SEA + BOAT + "hand 0 50 61;", 2, 31);
    }

    private static void tooMany() {
        StringBuilder text = new StringBuilder(SEA);
        for (int b = 0; b < 6; b++) {
            text.append(BOAT);
        }
        refuses(text + BOAT, 3, 86);
        refuses(text + "boat", 3, 86);
        for (int h = 0; h < 12; h++) {
            text.append("hand ").append(h / 3).append(" 20 1;");
        }
        refuses(text + "hand 5 20 1;", 3, text.length());
        refuses(text + "hand 9 20 1;", 3, text.length());
        StringBuilder one = new StringBuilder(SEA + BOAT + BOAT);
        for (int h = 0; h < 4; h++) {
            one.append("hand 1 20 1;");
        }
        refuses(one + "hand 1 20 1;", 3, one.length() + 5);
        refuses(one + "hand 1 19 1;", 3, one.length() + 5);
        reads(one + "hand 0 20 1;", 2);
    }

    private static void faultStays() {
        OverInDinghy x = Check.of("sea 5 9;boat 1 1 1 1;boat 2 2 2 2;hand 0 50 5;");
        x.tip(1);
        x.go(3, 3);
        long before = x.hand(0, 3);
        Check.due("7: a fault", Check.read(x, SEA + "boat 9 9 9 9;boat 0 1 1 1;"), Check.NOT - 100 - 26);
        Check.due("8: its number", x.fault(), 2);
        Check.due("7: all stays", x.count(1), 2);
        Check.due("7: its ticks", x.count(3), 3);
        Check.due("7: its wind", x.count(7), 9);
        Check.due("7: its hand", x.hand(0, 3), before);
        Check.due("7: its boat", x.boat(1, 0), 1);
        Check.due("7: a good one", Check.read(x, SEA + BOAT), 1);
        Check.due("8: the latest stays", x.fault(), 2);
        Check.due("7: another", Check.read(x, "x"), Check.NOT - 100);
        Check.due("8: the latest", x.fault(), 1);
    }

    /** What an earlier text left on the tape, or in a club, is not read again. */
    private static void nothingOld() {
        OverInDinghy x = new OverInDinghy();
        Check.read(x, "seaside 55555");
        Check.due("7: an old letter", Check.read(x, "sea"), Check.NOT - 103);
        Check.due("7: an old figure", Check.read(x, "sea    5"), Check.NOT - 108);
        Check.due("7: to the last byte", Check.read(x, "a".repeat(400)), Check.NOT - 100);
        Check.due("7: figures to the last byte", Check.read(x, "sea 5" + "5".repeat(395)), Check.NOT - 104);
        StringBuilder many = new StringBuilder("sea 5 0 mud;");
        for (int b = 0; b < 3; b++) {
            many.append("boat 30 1 1 0;");
        }
        for (int h = 0; h < 12; h++) {
            many.append("hand ").append(h % 3).append(" 150 60;");
        }
        Check.due("7: twelve hands", Check.read(x, many.toString()), 3);
        Check.due("7: four in each", x.boat(2, 5), 600);
        x.tip(2);
        x.go(5, 1);
        Check.due("7: mud", x.boat(2, 0), 3);
        Check.read(x, "sea 5 0;boat 30 1 1 0;boat 30 1 1 0;hand 1 40 60;");
        Check.due("7: no old hands in her", x.boat(0, 5), 0);
        Check.due("7: one hand", x.count(2), 1);
        Check.due("7: nobody can right her", x.rights(0, 0, -1, -1), 0);
        x.tip(0);
        x.go(5, 1);
        Check.due("7: no old mud", x.boat(0, 0), 2);
    }
}
