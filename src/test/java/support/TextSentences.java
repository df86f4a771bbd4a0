/** "Terms" 1's texts and faults, and promises 1 and 6 to 8. */
final class TextSentences {
    private static final String SEA = "sea 5 5;";
    private static final String BOAT = "boat 1 1 1 1;";
    private static final String HAND = "hand 0 50 5;";

    private TextSentences() {
    }

    static void all() {
        Doc.promise(1);
        newObject();
        Doc.terms(1);
        tape();
        names();
        figures();
        signs();
        between();
        order();
        sea();
        mud();
        boat();
        boats();
        hand();
        hands();
        stands();
        asNew();
        firstToken();
        leastOfOne();
        cannotStand();
        end();
        notAsTold();
        boatsMore();
        handsMore();
        fifth();
        Doc.promise(6);
        feed();
        feedBad();
        feedFull();
        Doc.promise(7);
        club();
        clubFault();
        Doc.promise(8);
        fault();
        noFault();
    }

    private static void reads(String text, long boats) {
        Check.due(text, Check.read(new OverInDinghy(), text), boats);
    }

    private static void refuses(String text, int fault, int at) {
        OverInDinghy x = new OverInDinghy();
        Check.due(text, Check.read(x, text), Check.NOT - 100 - at);
        Check.due(text + ": fault", x.fault(), fault);
        Check.due(text + ": no club", x.count(1), 0);
    }

    private static void newObject() {
        Doc.says("No CLUB.");
        OverInDinghy x = new OverInDinghy();
        for (int what = 0; what < 8; what++) {
            Check.due("count(" + what + ")", x.count(what), 0);
        }
        Check.due("go", x.go(1, 1), Check.STATE);
        Check.due("first", x.first(0, 1, 1, 0), Check.STATE);
        Check.due("heads", x.heads(0, 0), Check.STATE);
        Check.due("image", x.image(0), Check.STATE);
        long[] bad = {x.place(0, 0), x.tip(0), x.boat(0, 0), x.hand(0, 0), x.rights(0, 0, -1, -1), x.lightest(0), x.round(0),
            x.quickest(0, 0), x.tries(0, 1), x.kind(0), x.as(0, 0), x.ask(0, 0)};
        for (int i = 0; i < bad.length; i++) {
            Check.due("no boat, no hand: call " + i, bad[i], Check.BAD);
        }
    }

    private static void tape() {
        Doc.says("TEXTS: THE TAPE has at most 400 bytes;");
        OverInDinghy x = new OverInDinghy();
        String text = SEA + BOAT + HAND;
        Check.feed(x, text + " ".repeat(400 - text.length()));
        Check.due("400", x.count(4), 400);
        Check.due("not 401", x.feed(' ', 1), Check.FULL);
        Check.due("all of it is read", x.club(), 1);
        Check.feed(x, " ".repeat(399) + "x");
        Check.due("to its last byte", x.club(), Check.NOT - 100 - 399);
    }

    private static void names() {
        Doc.says("TOKENS: NAMES (letters a to z)");
        refuses("sea 5 5 azza;", 1, 8);
        refuses("seaa 5 5;", 1, 0);
        refuses("seaz 5 5;", 1, 0);
        refuses("sea`5 5;", 1, 3);
        refuses("sea{5 5;", 1, 3);
        refuses("Sea 5 5;", 1, 0);
        refuses("seA 5 5;", 1, 0);
        refuses("sea_5 5;", 1, 3);
        refuses("se a 5 5;", 1, 0);
    }

    private static void figures() {
        Doc.says("NUMBERS (figures, 3 at most)");
        reads("sea 030 040;boat 001 001 000 000;", 1);
        refuses("sea 0005 5;", 1, 4);
        refuses("sea 5 0000;", 1, 6);
        refuses("sea 1234567890123456789 5;", 1, 4);
        refuses("sea 999 5;", 2, 4);
        refuses("sea 5/5;", 1, 5);
        refuses("sea 5:5;", 1, 5);
        refuses("sea -5 5;", 1, 4);
        refuses("sea +5 5;", 1, 4);
    }

    private static void signs() {
        Doc.says("SIGNS ;");
        reads("sea 5 5 ; boat 1 1 1 1 ; hand 0 50 5 ;", 1);
        refuses("sea 5 5:", 1, 7);
        refuses("sea 5 5<", 1, 7);
        refuses("sea 5 5,", 1, 7);
        refuses(SEA + ";", 1, 8);
    }

    private static void between() {
        Doc.says("bytes 32 and 10 between.");
        reads("\n \nsea\n5 \n 5\n;\nboat 1\n1 1 1;\n \n", 1);
        reads("sea 5 5 mud;boat 1 1 1 1;hand 0 50 5;", 1);
        refuses("sea\t5 5;", 1, 3);
        refuses("sea\r5 5;", 1, 3);
        refuses("sea" + (char) 31 + "5 5;", 1, 3);
        refuses("sea!5 5;", 1, 3);
        refuses("sea" + (char) 0 + "5 5;", 1, 3);
        refuses("sea" + (char) 11 + "5 5;", 1, 3);
        refuses("sea" + (char) (32 + 128) + "5 5;", 1, 3);
        refuses("sea" + (char) 255 + "5 5;", 1, 3);
    }

    private static void order() {
        Doc.says("text: sea boat { boat } { hand }.");
        reads(SEA + BOAT, 1);
        reads(SEA + BOAT + BOAT, 2);
        reads(SEA + BOAT + HAND + HAND, 1);
        refuses(SEA, 1, 8);
        refuses(BOAT, 1, 0);
        refuses(HAND, 1, 0);
        refuses(SEA + HAND, 1, 8);
        refuses(SEA + SEA, 1, 8);
        refuses(SEA + BOAT + SEA, 1, 21);
        refuses(SEA + BOAT + HAND + BOAT, 1, 33);
        refuses(SEA + BOAT + HAND + SEA, 1, 33);
    }

    private static void sea() {
        Doc.says("sea: 'sea' WARMTH WIND [ 'mud' ] ';' (0 to 30; 0 to 40;");
        reads("sea 0 0;" + BOAT, 1);
        reads("sea 30 40;" + BOAT, 1);
        refuses("sea 31 0;" + BOAT, 2, 4);
        refuses("sea 0 41;" + BOAT, 2, 6);
        refuses("sea;", 1, 3);
        refuses("sea 5;", 1, 5);
        refuses("sea mud 5 5;", 1, 4);
        refuses("sea 5 mud 5;", 1, 6);
        refuses("sea 5 5 5;", 1, 8);
        refuses("sea 5 5 mud mud;", 1, 12);
        OverInDinghy x = Check.of("sea 9 40;boat 1 1 1 1;hand 0 50 1;");
        Check.due("wind 40", x.count(7), 40);
        Check.due("warmth 9: 249 a tick", x.tries(0, 1), 5);
        Check.read(x, "sea 10 0;boat 1 1 1 1;hand 0 50 1;");
        Check.due("wind 0", x.count(7), 0);
        Check.due("warmth 10: 166 a tick", x.tries(0, 1), 7);
    }

    private static void mud() {
        Doc.says("mud: it is so shallow that a mast comes to the ground).");
        OverInDinghy x = Check.of("sea 20 0 mud;boat 1 1 1 0;");
        x.tip(0);
        x.go(5, 1);
        Check.due("stuck", x.boat(0, 0), 3);
        Check.read(x, "sea 20 0;boat 1 1 1 0;");
        x.tip(0);
        x.go(5, 1);
        Check.due("turned", x.boat(0, 0), 2);
    }

    private static void boat() {
        Doc.says("boat: 'boat' BEAM SAIL AIR FLOAT ';' (1 to 30; 1 to 30; 0 to 9; 0 to 20;");
        reads(SEA + "boat 1 1 0 0;", 1);
        reads(SEA + "boat 30 30 9 20;", 1);
        refuses(SEA + "boat 0 1 0 0;", 2, 13);
        refuses(SEA + "boat 31 1 0 0;", 2, 13);
        refuses(SEA + "boat 1 0 0 0;", 2, 15);
        refuses(SEA + "boat 1 31 0 0;", 2, 15);
        refuses(SEA + "boat 1 1 10 0;", 2, 17);
        refuses(SEA + "boat 1 1 0 21;", 2, 19);
        refuses(SEA + "boat;", 1, 12);
        refuses(SEA + "boat 1;", 1, 14);
        refuses(SEA + "boat 1 1;", 1, 16);
        refuses(SEA + "boat 1 1 1;", 1, 18);
        refuses(SEA + "boat 1 1 1 1 1;", 1, 21);
        OverInDinghy x = Check.of("sea 20 0;boat 25 2 6 17;hand 0 30 60;");
        x.tip(0);
        x.place(0, 2);
        Check.due("beam 25", x.boat(0, 4), 75);
        Check.due("sail 2", x.boat(0, 3), 20);
        Check.due("float 17", x.round(0), 34);
        x.go(1, 1);
        Check.due("air 6", x.boat(0, 2), 34);
    }

    private static void boats() {
        Doc.says("BOATS 0 .. 5, 6 at most).");
        OverInDinghy x = new OverInDinghy();
        Check.due("six", Check.read(x, SEA + BOAT.repeat(6)), 6);
        Check.due("count", x.count(1), 6);
        Check.due("boat 5", x.boat(5, 0), 0);
        Check.due("no boat 6", x.boat(6, 0), Check.BAD);
        refuses(SEA + BOAT.repeat(7), 3, 8 + 6 * 13);
    }

    private static void hand() {
        Doc.says("hand: 'hand' BOAT WEIGHT LASTS ';' (a BOAT; 20 to 150; 1 to 60 minutes;");
        reads(SEA + BOAT + "hand 0 20 1;", 1);
        reads(SEA + BOAT + "hand 0 150 60;", 1);
        reads(SEA + BOAT.repeat(6) + "hand 5 150 60;", 6);
        refuses(SEA + BOAT + "hand 1 50 5;", 2, 26);
        refuses(SEA + BOAT.repeat(6) + "hand 6 50 5;", 2, 91);
        refuses(SEA + BOAT + "hand 0 19 5;", 2, 28);
        refuses(SEA + BOAT + "hand 0 151 5;", 2, 28);
        refuses(SEA + BOAT + "hand 0 50 0;", 2, 31);
        refuses(SEA + BOAT + "hand 0 50 61;", 2, 31);
        refuses(SEA + BOAT + "hand;", 1, 25);
        refuses(SEA + BOAT + "hand 0;", 1, 27);
        refuses(SEA + BOAT + "hand 0 50;", 1, 30);
        refuses(SEA + BOAT + "hand 0 50 5 5;", 1, 33);
        OverInDinghy x = Check.of("sea 20 0;" + BOAT + BOAT + "hand 1 33 7;hand 0 44 8;");
        Check.due("boat", x.hand(0, 0), 1);
        Check.due("weight", x.hand(0, 1), 33);
        x.place(0, 1);
        x.go(1, 1);
        Check.due("lasts", x.hand(0, 3), 1000 - 1000 / 42);
    }

    private static void hands() {
        Doc.says("HANDS 0 .. 11, 12 at most, 4 for a BOAT).");
        String three = SEA + BOAT.repeat(3);
        StringBuilder text = new StringBuilder(three);
        for (int h = 0; h < 12; h++) {
            text.append("hand ").append(h / 4).append(" 20 1;");
        }
        OverInDinghy x = new OverInDinghy();
        Check.due("twelve, four for each", Check.read(x, text.toString()), 3);
        Check.due("count", x.count(2), 12);
        Check.due("hand 11", x.hand(11, 0), 2);
        Check.due("no hand 12", x.hand(12, 0), Check.BAD);
        Check.due("four in her", x.boat(2, 5), 80);
        refuses(SEA + BOAT + HAND.repeat(5), 3, 21 + 4 * 12 + 5);
    }

    private static void stands() {
        Doc.says("A CLUB that is read stands in place of the one before (none at first)");
        OverInDinghy x = new OverInDinghy();
        Check.due("none", x.count(1), 0);
        Check.read(x, "sea 5 7 mud;boat 30 1 1 0;boat 30 1 1 0;boat 30 1 1 0;hand 0 50 5;hand 2 50 5;");
        Check.due("three", x.count(1), 3);
        Check.read(x, "sea 20 0;boat 1 1 1 0;hand 0 60 6;");
        Check.due("one", x.count(1), 1);
        Check.due("no boat 1", x.boat(1, 0), Check.BAD);
        Check.due("one hand", x.count(2), 1);
        Check.due("no hand 1", x.hand(1, 0), Check.BAD);
        Check.due("its weight", x.hand(0, 1), 60);
        Check.due("its wind", x.count(7), 0);
        x.tip(0);
        x.go(5, 1);
        Check.due("no mud", x.boat(0, 0), 2);
    }

    private static void asNew() {
        Doc.says(": all BOATS UP, dry, all HANDS in them, tick 0.");
        OverInDinghy x = new OverInDinghy();
        String text = "sea 20 0;boat 30 1 1 20;boat 30 1 1 0;hand 0 150 1;hand 1 50 1;";
        for (int time = 0; time < 2; time++) {
            Check.read(x, text);
            for (int b = 0; b < 2; b++) {
                Check.due("up", x.boat(b, 0), 0);
                Check.due("mast", x.boat(b, 1), 0);
                Check.due("dry", x.boat(b, 2), 0);
                Check.due("never sided", x.boat(b, 6), 0);
                Check.due("in her", x.hand(b, 2), 0);
                Check.due("grip", x.hand(b, 3), 1000);
            }
            Check.due("tick 0", x.count(3), 0);
            x.tip(0);
            x.tip(1);
            x.place(0, 2);
            x.place(1, 3);
            x.go(7, 1);
            Check.due("full", x.boat(0, 0), 4);
            Check.due("turned", x.boat(1, 0), 2);
        }
    }

    private static void firstToken() {
        Doc.says("FAULTS, the first TOKEN that has one (its first byte)");
        refuses("sea 31 41 rock", 2, 4);
        refuses("sea 5 41 rock", 2, 6);
        refuses("sea 5 5 rock 31", 1, 8);
        refuses("  sea   123 5;", 2, 8);
        refuses("sea 5 5;boat 1 1 1 1;rocks", 1, 21);
        refuses("\n\n\nsea 5 5 ;\n boat 99 99 99 99;", 2, 19);
    }

    private static void leastOfOne() {
        Doc.says(", of one TOKEN the least:");
        // a number of 4 figures is none, whatever it would be; a seventh boat behind a hand cannot stand there
        refuses("sea 9999 5;", 1, 4);
        refuses("sea 5 5 999;", 1, 8);
        refuses(SEA + BOAT.repeat(6) + "hand 0 50 5;boat 1 1 1 1;", 1, 98);
        refuses(SEA + BOAT + HAND.repeat(4) + "hand 9999 50 5;", 1, 21 + 48 + 5);
        refuses(SEA + BOAT + HAND.repeat(4) + "hand 1 50 5;", 2, 21 + 48 + 5);
    }

    private static void cannotStand() {
        Doc.says("1 it cannot stand there, or is none");
        refuses("mud 5 5;", 1, 0);
        refuses("sea sea;", 1, 4);
        refuses("sea 5 5 boat;", 1, 8);
        refuses("sea 5 5; 7", 1, 9);
        refuses("#", 1, 0);
        refuses(";", 1, 0);
        refuses("5", 1, 0);
        refuses(SEA + BOAT + "#", 1, 21);
        refuses(SEA + BOAT + HAND + "x", 1, 33);
    }

    private static void end() {
        Doc.says("(the end: how many bytes there are)");
        refuses("", 1, 0);
        refuses(" ", 1, 1);
        refuses("\n".repeat(400), 1, 400);
        refuses("sea", 1, 3);
        refuses("sea ", 1, 4);
        refuses("sea 5 5", 1, 7);
        refuses("sea 5 5;", 1, 8);
        refuses("sea 5 5;  \n", 1, 11);
        refuses(SEA + "boat 1 1 1 1", 1, 20);
        refuses(SEA + BOAT + "hand 0 50 5", 1, 32);
        refuses(SEA + BOAT + "hand 0 50 5  ", 1, 34);
    }

    private static void notAsTold() {
        Doc.says("2 a NUMBER that is not as told;");
        refuses("sea 031 5;", 2, 4);
        refuses("sea 5 999;", 2, 6);
        refuses(SEA + "boat 000 1 1 1;", 2, 13);
        refuses(SEA + "boat 1 1 010 1;", 2, 17);
        refuses(SEA + BOAT + BOAT + "hand 2 50 5;", 2, 39);
        refuses(SEA + BOAT + "hand 999 50 5;", 2, 26);
    }

    private static void boatsMore() {
        Doc.says("3 a boat,");
        refuses(SEA + BOAT.repeat(6) + "boat", 3, 86);
        refuses(SEA + BOAT.repeat(6) + "\n boat 0 0 99 99", 3, 88);
        reads(SEA + BOAT.repeat(6), 6);
    }

    private static void handsMore() {
        Doc.says("a hand more than there is room for (its word;");
        StringBuilder text = new StringBuilder(SEA + BOAT.repeat(4));
        for (int h = 0; h < 12; h++) {
            text.append("hand ").append(h % 4).append(" 20 1;");
        }
        reads(text.toString(), 4);
        int end = text.length();
        refuses(text + "hand", 3, end);
        refuses(text + "hand 0 20 1;", 3, end);
        refuses(text + " hand 9 20 1;", 3, end + 1);
        refuses(text + "hands", 1, end);
    }

    private static void fifth() {
        Doc.says("a fifth of a BOAT: its BOAT's number).");
        String two = SEA + BOAT.repeat(2);
        reads(two + "hand 1 50 5;".repeat(4), 2);
        refuses(two + "hand 1 50 5;".repeat(5), 3, 34 + 48 + 5);
        refuses(two + "hand 1 50 5;".repeat(4) + "hand 0 50 5;hand 001 50 5;", 3, 34 + 60 + 5);
        refuses(two + "hand 1 50 5;".repeat(4) + "hand 1", 3, 34 + 48 + 5);
        refuses(two + "hand 1 50 5;".repeat(4) + "hand 1 0 0;", 3, 34 + 48 + 5);
        reads(two + "hand 1 50 5;".repeat(4) + "hand 0 50 5;".repeat(4), 2);
    }

    private static void feed() {
        Doc.says("The lowest n bytes of w (1 to 8), the highest of them first, come behind the tape: how many it has.");
        OverInDinghy x = new OverInDinghy();
        // each piece of the text stands low in a number whose other bytes would be faults
        String text = "sea 12 34;boat 5 6 7 8;hand 0 90 12;";
        int at = 0;
        for (int n = 1; n <= 8; n++) {
            long w = -1;
            for (int i = 0; i < n; i++) {
                w = w << 8 | text.charAt(at + i);
            }
            at += n;
            Check.due("feed of " + n, x.feed(w, n), at);
            Check.due("bytes on the tape", x.count(4), at);
        }
        Check.due("all 36 bytes", at, text.length());
        Check.due("read", x.club(), 1);
        Check.due("wind", x.count(7), 34);
        Check.due("weight", x.hand(0, 1), 90);
        Check.due("a first byte above 127", x.feed(0xffL << 56, 8), 8);
        Check.due("is none", x.club(), Check.NOT - 100);
    }

    private static void feedBad() {
        Doc.says("BAD: n;");
        OverInDinghy x = new OverInDinghy();
        int[] bad = {0, 9, -1, Integer.MIN_VALUE, Integer.MAX_VALUE};
        for (int n : bad) {
            Check.due("n " + n, x.feed(0, n), Check.BAD);
        }
        Check.due("none came", x.count(4), 0);
        Check.due("n 1", x.feed(0, 1), 1);
        Check.due("n 8", x.feed(0, 8), 9);
    }

    private static void feedFull() {
        Doc.says("FULL: none comes.");
        OverInDinghy x = new OverInDinghy();
        for (int i = 1; i <= 49; i++) {
            Check.due("fill", x.feed(0, 8), 8 * i);
        }
        Check.due("393", x.feed(0, 1), 393);
        Check.due("8 are one too many", x.feed(0, 8), Check.FULL);
        Check.due("none came", x.count(4), 393);
        Check.due("7 are as many as there is room for", x.feed(0, 7), 400);
        for (int n = 1; n <= 8; n++) {
            Check.due("no room", x.feed(0, n), Check.FULL);
        }
        Check.due("still 400", x.count(4), 400);
    }

    private static void club() {
        Doc.says("The tape, empty then, is read: how many BOATS there are.");
        OverInDinghy x = new OverInDinghy();
        for (int boats = 1; boats <= 6; boats++) {
            Check.due(boats + " boats", Check.read(x, SEA + BOAT.repeat(boats)), boats);
            Check.due("empty", x.count(4), 0);
        }
        Check.due("an empty tape", x.club(), Check.NOT - 100);
        Check.due("the club stays", x.count(1), 6);
        Check.read(x, "sea 5");
        Check.due("empty behind a fault, too", x.count(4), 0);
        Check.due("so the next text is read from its beginning", Check.read(x, SEA + BOAT), 1);
    }

    private static void clubFault() {
        Doc.says("NOT less 100 less the place of a FAULT: all stays.");
        OverInDinghy x = TermsSentences.rich();
        x.feed(0, 1);
        x.club();
        Check.read(x, "#");
        String before = TermsSentences.all(x);
        String[] wrong = {"#", "tea", "sea 30 40 mud;", "sea 30 40 mud;boat 9 9 9 9;boat 0", "sea 30 40 mud;boat 9 9 9 9;hand 0 77 7;#"};
        int[] at = {0, 0, 14, 32, 39};
        for (int i = 0; i < wrong.length; i++) {
            x.feed(' ', 1);
            Check.due(wrong[i], Check.read(x, wrong[i]), Check.NOT - 100 - at[i] - 1);
            Check.due("the number is told", x.fault(), i == 3 ? 2 : 1);
        }
        Check.holds("all stays", TermsSentences.all(x).equals(before));
        Check.due("the image, too", x.restore(0), 1);
        Check.holds("as it was", before.startsWith(TermsSentences.club(x)));
        OverInDinghy y = new OverInDinghy();
        Check.read(y, "sea 30 40;boat 1 1 1 1;boat 0");
        Check.due("no club where none was", y.go(1, 1), Check.STATE);
        Check.due("nor its wind", y.count(7), 0);
    }

    private static void fault() {
        Doc.says("The number of the latest FAULT;");
        OverInDinghy x = new OverInDinghy();
        Check.read(x, "sea 31");
        Check.due("2", x.fault(), 2);
        Check.read(x, SEA + BOAT);
        Check.due("2 still", x.fault(), 2);
        Check.read(x, SEA + BOAT.repeat(7));
        Check.due("3", x.fault(), 3);
        x.image(0);
        x.restore(0);
        x.go(1, 1);
        Check.due("3 still", x.fault(), 3);
        Check.read(x, "");
        Check.due("1", x.fault(), 1);
    }

    private static void noFault() {
        Doc.says("0 before one.");
        OverInDinghy x = new OverInDinghy();
        Check.due("new", x.fault(), 0);
        x.feed('#', 1);
        Check.due("not read yet", x.fault(), 0);
        OverInDinghy y = Check.of(SEA + BOAT);
        Check.due("read without one", y.fault(), 0);
    }
}
