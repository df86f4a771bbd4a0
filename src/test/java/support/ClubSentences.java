/** What is told of a whole club: FIRST, HEADS, KINDS, ASKS and THE TRACE, and promises 20 and 23 to 30. */
final class ClubSentences {
    private static final int LEAST = Integer.MIN_VALUE;
    private static final int MOST = Integer.MAX_VALUE;

    private ClubSentences() {
    }

    static void all() {
        Doc.terms(3);
        firstOdds();
        firstOrder();
        firstOfSeveral();
        headsOf();
        kinds();
        byThis();
        Doc.terms(4);
        bodies();
        sizes();
        marks();
        nearest();
        anew();
        Doc.promise(20);
        first();
        firstBad();
        firstState();
        firstNull();
        firstPlace();
        firstItem();
        firstNone();
        Doc.promise(23);
        heads();
        headsBad();
        headsState();
        headsNull();
        headsPlace();
        headsItem();
        Doc.promise(24);
        image();
        imageBad();
        imageState();
        Doc.promise(25);
        restore();
        restoreBad();
        restoreState();
        Doc.promise(26);
        kind();
        kindBad();
        Doc.promise(27);
        as();
        asBad();
        asKind();
        Doc.promise(28);
        ask();
        askBad();
        askEmpty();
        Doc.promise(29);
        trace();
        Doc.promise(30);
        count();
        countBad();
    }

    private static OverInDinghy boats(int n) {
        return Check.of("sea 5 5;" + "boat 1 1 1 1;".repeat(n));
    }

    private static void order(OverInDinghy x, int r, int m, long cost, int... boats) {
        Check.due("cost by " + r, x.first(0, r, m, -1), cost);
        for (int i = 0; i < boats.length; i++) {
            Check.due("place " + i + " by " + r, x.first(0, r, m, i), boats[i]);
        }
        Check.due("no more", x.first(0, r, m, boats.length), Check.NONE);
    }

    private static void firstOdds() {
        Doc.says("FIRST: odds (0 to 99) for each BOAT, r rescuers (1, 2), m minutes for each (1 to 20):");
        OverInDinghy x = boats(6);
        Check.items(x, 0, 99, 99, 99, 99, 99, 99);
        order(x, 1, 20, 99 * 20 * 21, 0, 1, 2, 3, 4, 5);
        order(x, 2, 20, 99 * 20 * 12, 0, 1, 2, 3, 4, 5);
        order(x, 1, 1, 99 * 21, 0, 1, 2, 3, 4, 5);
        Check.items(x, 0, 0, 0, 0, 0, 0, 0);
        order(x, 1, 20, 0, 0, 1, 2, 3, 4, 5);
        order(x, 2, 1, 0, 0, 1, 2, 3, 4, 5);
        x = boats(1);
        Check.items(x, 0, 7);
        order(x, 1, 3, 21, 0);
        order(x, 2, 3, 21, 0);
    }

    private static void firstOrder() {
        Doc.says("an order of all BOATS: each is gone to by whoever is free first; she waits till he is free, and m minutes; then he is free: "
                + "odds times minutes waited, added: the least (place = -1), the BOAT at a place of that order,");
        OverInDinghy x = boats(5);
        Check.items(x, 0, 1, 50, 20, 99, 3);
        order(x, 1, 2, 2 * (99 + 2 * 50 + 3 * 20 + 4 * 3 + 5), 3, 1, 2, 4, 0);
        order(x, 2, 2, 2 * (99 + 50 + 2 * 20 + 2 * 3 + 3), 1, 3, 2, 4, 0);
        // one with no odds at all is still gone to, last
        Check.items(x, 0, 0, 50, 20, 99, 3);
        order(x, 1, 2, 2 * (99 + 2 * 50 + 3 * 20 + 4 * 3), 3, 1, 2, 4, 0);
        x = boats(2);
        Check.items(x, 0, 3, 4);
        order(x, 2, 5, 35, 0, 1);
        order(x, 1, 5, 5 * 4 + 10 * 3, 1, 0);
        x = boats(3);
        Check.items(x, 0, 3, 4, 5);
        order(x, 2, 5, 5 * 9 + 10 * 3, 1, 2, 0);
    }

    private static void firstOfSeveral() {
        Doc.says("of several the first by BOATS.");
        OverInDinghy x = boats(6);
        Check.items(x, 0, 5, 9, 5, 9, 5, 9);
        order(x, 1, 1, 9 + 18 + 27 + 20 + 25 + 30, 1, 3, 5, 0, 2, 4);
        // at once 1 and 3; then 5 with 0, the first of three alike; then 2 and 4
        order(x, 2, 1, 18 + 2 * 14 + 3 * 10, 1, 3, 0, 5, 2, 4);
        // two at once may stand in either order: the lesser first
        Check.items(x, 0, 1, 2, 3, 4, 5, 6);
        order(x, 2, 1, 11 + 2 * 7 + 3 * 3, 4, 5, 2, 3, 0, 1);
        Check.items(x, 0, 6, 5, 4, 3, 2, 1);
        order(x, 2, 1, 11 + 2 * 7 + 3 * 3, 0, 1, 2, 3, 4, 5);
        // an odd one has nobody beside
        for (int n = 1; n <= 5; n += 2) {
            x = boats(n);
            x.row(0, 0, n);
            x.set(0, 0, 1);
            Check.due("the last of " + n, x.first(0, 2, 1, n - 1), n - 1);
            x.set(0, n - 1, 2);
            Check.due("the first of " + n, x.first(0, 2, 1, 0), 0);
        }
    }

    private static void headsAre(OverInDinghy x, long lack, long more, long all) {
        Check.due("lack", x.heads(0, 0), lack);
        Check.due("more", x.heads(0, 1), more);
        Check.due("balance", x.heads(0, 2), all);
    }

    private static void headsOf() {
        Doc.says("HEADS: for each BOAT how many went out and how many are in: BOATS that lack some (bits); how many more are in than went out, "
                + "over those where it is so; whether for each as many are in as went out (1, 0).");
        OverInDinghy x = boats(6);
        Check.items(x, 0, 0, 0, 9, 9, 4, 4, 1, 1, 0, 0, 2, 2);
        headsAre(x, 0, 0, 1);
        Check.items(x, 0, 1, 0, 9, 9, 4, 4, 1, 1, 0, 0, 2, 2);
        headsAre(x, 1, 0, 0);
        Check.items(x, 0, 0, 0, 9, 9, 4, 4, 1, 1, 0, 0, 3, 2);
        headsAre(x, 32, 0, 0);
        Check.items(x, 0, 0, 0, 9, 9, 4, 5, 1, 1, 0, 0, 2, 2);
        headsAre(x, 0, 1, 0);
        Check.items(x, 0, 0, 9, 0, 9, 0, 9, 0, 9, 0, 9, 0, 9);
        headsAre(x, 0, 54, 0);
        Check.items(x, 0, 9, 0, 9, 0, 9, 0, 9, 0, 9, 0, 9, 0);
        headsAre(x, 63, 0, 0);
        // what some lack is not taken off what others have more; as many in all is no balance
        Check.items(x, 0, 1, 3, 5, 3, 4, 4, 1, 1, 0, 1, 3, 2);
        headsAre(x, 2 + 32, 3, 0);
    }

    /** Boats 0 to 4 are up, sided (mast 7), turned, stuck, full (water 64). */
    private static OverInDinghy five() {
        OverInDinghy x = Check.of("sea 20 0 mud;boat 30 1 1 20;boat 30 1 1 19;boat 30 1 1 0;boat 30 1 1 0;boat 30 1 1 20;hand 2 150 60;hand 4 150 60;");
        for (int b = 1; b < 5; b++) {
            x.tip(b);
        }
        x.go(6, 1);
        x.place(0, 2);
        x.place(1, 2);
        x.go(1, 1);
        for (int b = 0; b < 5; b++) {
            Check.due("how boat " + b + " is", x.boat(b, 0), b);
        }
        return x;
    }

    private static void kinds() {
        Doc.says("KINDS of BOATS (as they are): 0 BOAT; 1 DRY, a BOAT: UP; 2 LYING, a BOAT: SIDED; 3 ROUND, a LYING one: TURNED; "
                + "4 HELD, a ROUND one: STUCK; 5 SWAMPED, a BOAT: FULL.");
        OverInDinghy x = five();
        int[] are = {1 + 2, 1 + 4, 1 + 4 + 8, 1 + 4 + 8 + 16, 1 + 32};
        for (int b = 0; b < 5; b++) {
            Check.due("kind of " + b, x.kind(b), b + 1);
            for (int kind = 0; kind < 6; kind++) {
                Check.due(b + " as " + kind, x.as(b, kind), (are[b] >> kind & 1) == 1 ? b : Check.KIND);
            }
        }
    }

    private static void byThis() {
        Doc.says("By this it is asked.");
        OverInDinghy x = Check.of("sea 20 0;boat 30 1 1 0;hand 0 150 60;");
        asked(x, 0, 1, 0, 23, 20, 10);
        x.tip(0);
        asked(x, 0, 1, 0, 21, 20);
        x.place(0, 2);
        x.go(1, 1);
        asked(x, 0, 1, -64, 24, 20, 13, 10);
        x.tip(0);
        x.go(5, 1);
        asked(x, 0, 0, 200, 12, 11, 10, 21, 20);
    }

    private static void asked(OverInDinghy x, int boat, int what, long answer, int... trace) {
        Check.due("ask(" + boat + ", " + what + ")", x.ask(boat, what), answer);
        for (int i = 0; i < 20; i++) {
            Check.due("trace(" + i + ")", x.trace(i), i < trace.length ? trace[i] : Check.NONE);
        }
    }

    private static void bodies() {
        Doc.says("ASKS of BOATS, by BODIES, each of which leaves its number in THE TRACE as it begins (the first 16):");
        OverInDinghy x = five();
        Check.due("new: empty", new OverInDinghy().trace(0), Check.NONE);
        // the longest there is: each as it begins, so ahead of what it asks
        asked(x, 3, 0, 2 * (3 + 100 - 500) + 1000, 14, 12, 11, 10, 22, 21, 20);
        for (int i = 0; i < 60; i++) {
            x.ask(3, 0);
        }
        Check.due("none of the earlier asks'", x.trace(7), Check.NONE);
    }

    private static void sizes() {
        OverInDinghy x = five();
        Doc.says("0 SIZE: 10 lent to all BOATS: WATER.");
        asked(x, 0, 0, 0, 10);
        Doc.says("11 of LYING ones: what 10 gives, and MARK.");
        asked(x, 1, 0, 1 + 7, 11, 10, 21, 20);
        Doc.says("12 of ROUND ones: what 11 gives, twice.");
        asked(x, 2, 0, 2 * (2 + 100), 12, 11, 10, 21, 20);
        Doc.says("13 of SWAMPED ones: 0 less what 10 gives.");
        asked(x, 4, 0, -64, 13, 10);
        Doc.says("14 of HELD ones: what 12 gives, and 1000.");
        asked(x, 3, 0, 2 * (3 + 100 - 500) + 1000, 14, 12, 11, 10, 22, 21, 20);
    }

    private static void marks() {
        OverInDinghy x = five();
        Doc.says("1 MARK: 20 lent to all BOATS: its number.");
        asked(boats(6), 5, 1, 5, 23, 20, 10);
        Doc.says("21 of LYING ones: what 20 gives, and MAST.");
        asked(x, 1, 1, 1 + 7, 21, 20);
        asked(x, 2, 1, 2 + 100, 21, 20);
        Doc.says("22 of HELD ones: what 21 gives, less 500.");
        asked(x, 3, 1, 3 + 100 - 500, 22, 21, 20);
        Doc.says("23 of DRY ones: what 20 gives, less SIZE.");
        asked(x, 0, 1, 0, 23, 20, 10);
        Doc.says("24 of SWAMPED ones: what 20 gives, and SIZE.");
        asked(x, 4, 1, 4 - 64, 24, 20, 13, 10);
    }

    private static void nearest() {
        Doc.says("(Of an ask the BODY told for the KIND begins, else that of the nearest KIND that it is, too, else the one that is lent;");
        OverInDinghy x = five();
        x.ask(3, 0);
        Check.due("told for held ones", x.trace(0), 14);
        x.ask(2, 1);
        Check.due("none is told for round ones: that of lying ones", x.trace(0), 21);
        x.ask(0, 0);
        Check.due("none is told for dry ones: the one that is lent", x.trace(0), 10);
    }

    private static void anew() {
        Doc.says("SIZE, MARK within others are asked of the same BOAT anew.)");
        OverInDinghy x = five();
        // 11 of a held one asks MARK: 22, not 21
        asked(x, 3, 0, 206, 14, 12, 11, 10, 22, 21, 20);
        // 24 of a swamped one asks SIZE: 13, not 10
        asked(x, 4, 1, -60, 24, 20, 13, 10);
    }

    private static void first() {
        Doc.says("FIRST by a ROW from its beginning on.");
        OverInDinghy x = boats(3);
        Check.items(x, 0, 1, 99, 0, 500, -7);
        order(x, 1, 1, 99 + 2, 1, 0, 2);
        Check.items(x, 0, 1, 99, 0);
        order(x, 1, 1, 99 + 2, 1, 0, 2);
        for (int lane = 0; lane < 3; lane++) {
            x.row(7, lane, 40);
            x.set(7, 2, 99);
            Check.due("row 7 of lane " + lane, x.first(7, 1, 1, 0), 2);
        }
    }

    private static void firstBad() {
        Doc.says("BAD: ROW, r, m, place below -1;");
        OverInDinghy x = boats(2);
        Check.items(x, 0, 1, 2);
        int[][] bad = {{-1, 1, 1, 0}, {8, 1, 1, 0}, {LEAST, 1, 1, 0}, {MOST, 1, 1, 0}, {0, 0, 1, 0}, {0, 3, 1, 0}, {0, -1, 1, 0}, {0, LEAST, 1, 0},
            {0, MOST, 1, 0}, {0, 1, 0, 0}, {0, 1, 21, 0}, {0, 1, -1, 0}, {0, 1, LEAST, 0}, {0, 1, MOST, 0}, {0, 1, 1, -2}, {0, 1, 1, LEAST}};
        for (int[] b : bad) {
            Check.due(java.util.Arrays.toString(b), x.first(b[0], b[1], b[2], b[3]), Check.BAD);
        }
        Check.due("ahead of NULL", x.first(1, 0, 1, 0), Check.BAD);
        Check.due("2, 20, -1", x.first(0, 2, 20, -1), 60);
        Check.due("1, 1, 0", x.first(0, 1, 1, 0), 1);
    }

    private static void firstState() {
        Doc.says("STATE: no CLUB (ahead of BAD);");
        OverInDinghy x = new OverInDinghy();
        Check.due("no club", x.first(0, 1, 1, 0), Check.STATE);
        Check.due("ahead of the row", x.first(8, 1, 1, 0), Check.STATE);
        Check.due("ahead of r", x.first(0, 3, 1, 0), Check.STATE);
        Check.due("ahead of m", x.first(0, 1, 21, 0), Check.STATE);
        Check.due("ahead of the place", x.first(0, 1, 1, -2), Check.STATE);
        Check.items(x, 0, 100);
        Check.due("ahead of an item", x.first(0, 1, 1, 0), Check.STATE);
        x.row(0, 0, 0);
        Check.due("ahead of PLACE", x.first(0, 1, 1, 0), Check.STATE);
    }

    private static void firstNull() {
        Doc.says("NULL;");
        OverInDinghy x = boats(2);
        Check.due("missing", x.first(0, 1, 1, 0), Check.NULL);
        Check.due("status", x.status(), 1);
        Check.items(x, 0, 1, 2);
        Check.due("there", x.first(0, 1, 1, 0), 1);
        x.drop(0);
        Check.due("missing again", x.first(0, 1, 1, -1), Check.NULL);
    }

    private static void firstPlace() {
        Doc.says("PLACE;");
        OverInDinghy x = boats(6);
        x.row(0, 0, 5);
        Check.due("five of six", x.first(0, 1, 1, 0), Check.PLACE);
        Check.due("status", x.status(), 2);
        x.row(0, 0, 0);
        Check.due("none of six", x.first(0, 1, 1, -1), Check.PLACE);
        x.row(0, 0, 6);
        Check.due("six of six", x.first(0, 1, 1, 0), 0);
        x.row(0, 2, 5);
        x.set(0, 0, 100);
        Check.due("ahead of an item", x.first(0, 1, 1, 0), Check.PLACE);
    }

    private static void firstItem() {
        Doc.says("then BAD: an ITEM.");
        OverInDinghy x = boats(3);
        for (int i = 0; i < 3; i++) {
            Check.items(x, 0, 9, 9, 9);
            x.set(0, i, 100);
            Check.due("item " + i + " above", x.first(0, 1, 1, 0), Check.BAD);
            x.set(0, i, -1);
            Check.due("item " + i + " below", x.first(0, 1, 1, -1), Check.BAD);
            Check.due("ahead of NONE", x.first(0, 1, 1, 3), Check.BAD);
            x.set(0, i, 99);
            Check.due("99", x.first(0, 1, 1, 0), i);
            x.set(0, i, 0);
            Check.due("0", x.first(0, 1, 1, 2), i);
        }
        Check.items(x, 0, 9, 9, 9, 100);
        Check.due("none behind", x.first(0, 1, 1, 0), 0);
    }

    private static void firstNone() {
        Doc.says("NONE: not so many.");
        for (int n = 1; n <= 6; n++) {
            OverInDinghy x = boats(n);
            x.row(0, 0, 40);
            Check.due("the last of " + n, x.first(0, 1, 1, n - 1), n - 1);
            Check.due("not so many", x.first(0, 1, 1, n), Check.NONE);
            Check.due("far from so many", x.first(0, 2, 1, MOST), Check.NONE);
            Check.due("no finding", x.status(), 0);
        }
    }

    private static void heads() {
        Doc.says("HEADS, two ITEMS (out, in: 0 to 9) for each BOAT, of a ROW from its beginning on: which lack (what = 0), how many more (1), "
                + "whether all balance (2).");
        OverInDinghy x = boats(2);
        Check.items(x, 0, 9, 0, 0, 9);
        headsAre(x, 1, 9, 0);
        Check.items(x, 0, 0, 9, 9, 0, 10, -1);
        headsAre(x, 2, 9, 0);
        x.row(0, 0, 4);
        headsAre(x, 0, 0, 1);
        x.row(0, 1, 40);
        headsAre(x, 0, 0, 1);
    }

    private static void headsBad() {
        Doc.says("BAD: ROW, what;");
        OverInDinghy x = boats(2);
        x.row(0, 0, 4);
        int[][] bad = {{-1, 0}, {8, 0}, {LEAST, 0}, {MOST, 0}, {0, -1}, {0, 3}, {0, LEAST}, {0, MOST}};
        for (int[] b : bad) {
            Check.due(b[0] + ", " + b[1], x.heads(b[0], b[1]), Check.BAD);
        }
        Check.due("ahead of NULL", x.heads(7, 3), Check.BAD);
    }

    private static void headsState() {
        Doc.says("STATE: no CLUB (ahead of BAD);");
        OverInDinghy x = new OverInDinghy();
        x.row(0, 0, 12);
        Check.due("no club", x.heads(0, 0), Check.STATE);
        Check.due("ahead of the row", x.heads(8, 0), Check.STATE);
        Check.due("ahead of what", x.heads(0, 3), Check.STATE);
        Check.due("ahead of NULL", x.heads(1, 0), Check.STATE);
        x.set(0, 0, 10);
        Check.due("ahead of an item", x.heads(0, 0), Check.STATE);
    }

    private static void headsNull() {
        Doc.says("NULL;");
        OverInDinghy x = boats(2);
        Check.due("missing", x.heads(7, 2), Check.NULL);
        Check.due("status", x.status(), 1);
    }

    private static void headsPlace() {
        Doc.says("PLACE;");
        for (int n = 1; n <= 6; n++) {
            OverInDinghy x = boats(n);
            x.row(0, 0, 2 * n - 1);
            x.set(0, 0, 10);
            Check.due("one too few, ahead of an item", x.heads(0, 0), Check.PLACE);
            Check.due("status", x.status(), 2);
            x.row(0, 0, 2 * n);
            Check.due("just enough", x.heads(0, 2), 1);
        }
        OverInDinghy x = boats(1);
        x.row(0, 0, 0);
        Check.due("none", x.heads(0, 1), Check.PLACE);
    }

    private static void headsItem() {
        Doc.says("then BAD: an ITEM.");
        OverInDinghy x = boats(3);
        for (int i = 0; i < 6; i++) {
            for (int what = 0; what < 3; what++) {
                x.row(0, 0, 6);
                x.set(0, i, 10);
                Check.due("item " + i + " above", x.heads(0, what), Check.BAD);
                x.set(0, i, -1);
                Check.due("item " + i + " below", x.heads(0, what), Check.BAD);
                x.set(0, i, 9);
                Check.holds("9", x.heads(0, what) >= 0);
            }
        }
    }

    private static void image() {
        Doc.says("An IMAGE (0, 1) is kept of the CLUB and how it is: 1.");
        OverInDinghy x = five();
        Check.due("image 0", x.image(0), 1);
        String kept = TermsSentences.club(x);
        x.go(1, 1);
        Check.due("image 1", x.image(1), 1);
        String later = TermsSentences.club(x);
        Check.holds("it went on", !kept.equals(later));
        x.restore(0);
        Check.holds("the first", TermsSentences.club(x).equals(kept));
        x.restore(1);
        Check.holds("the second", TermsSentences.club(x).equals(later));
        Check.due("in place of the first", x.image(0), 1);
        x.go(9, 1);
        x.restore(0);
        Check.holds("the second twice", TermsSentences.club(x).equals(later));
    }

    private static void imageBad() {
        Doc.says("BAD;");
        OverInDinghy x = boats(1);
        int[] bad = {-1, 2, LEAST, MOST};
        for (int k : bad) {
            Check.due("image " + k, x.image(k), Check.BAD);
            Check.due("ahead of STATE", new OverInDinghy().image(k), Check.BAD);
        }
        Check.due("none was kept", x.restore(0), Check.STATE);
        Check.due("none was kept", x.restore(1), Check.STATE);
    }

    private static void imageState() {
        Doc.says("STATE: no CLUB.");
        OverInDinghy x = new OverInDinghy();
        Check.due("0", x.image(0), Check.STATE);
        Check.due("1", x.image(1), Check.STATE);
        Check.read(x, "sea");
        Check.due("none behind a fault", x.image(0), Check.STATE);
        Check.due("and none was kept", x.restore(0), Check.STATE);
    }

    private static void restore() {
        Doc.says("The CLUB is as an IMAGE kept it: 1.");
        String one = "sea 3 7 mud;boat 30 1 4 6;boat 12 6 3 5;hand 0 60 9;hand 1 70 8;hand 0 80 7;";
        OverInDinghy x = Check.of(one);
        x.tip(0);
        x.place(0, 3);
        x.place(2, 2);
        x.go(1, 1);
        Check.due("full", x.boat(0, 0), 4);
        x.image(0);
        String kept = TermsSentences.club(x);
        x.go(20, 3);
        String later = TermsSentences.club(x);
        Check.holds("it went on", !kept.equals(later));
        Check.due("back", x.restore(0), 1);
        Check.holds("as kept", TermsSentences.club(x).equals(kept));
        x.go(20, 3);
        Check.holds("and goes on as before", TermsSentences.club(x).equals(later));
        // another club in between: more boats, other sea
        Check.read(x, "sea 20 0;" + "boat 1 1 0 0;".repeat(6) + "hand 5 20 1;");
        Check.due("back", x.restore(0), 1);
        Check.holds("the club, too", TermsSentences.club(x).equals(kept));
        x.go(20, 3);
        Check.holds("its sea, too", TermsSentences.club(x).equals(later));
        Check.due("again and again", x.restore(0), 1);
        Check.holds("kept still", TermsSentences.club(x).equals(kept));
        // rows, tape, fault, trace and status are no part of it
        Check.read(x, "sea 31");
        x.row(3, 0, 3);
        x.ask(0, 0);
        x.feed(' ', 3);
        x.set(4, 0, 0);
        x.restore(0);
        Check.due("status", x.status(), 1);
        Check.due("fault", x.fault(), 2);
        Check.due("trace", x.trace(0), 13);
        Check.due("rows", x.count(0), 1);
        Check.due("tape", x.count(4), 3);
    }

    private static void restoreBad() {
        Doc.says("BAD;");
        OverInDinghy x = boats(1);
        x.image(0);
        x.image(1);
        x.tip(0);
        int[] bad = {-1, 2, LEAST, MOST};
        for (int k : bad) {
            Check.due("image " + k, x.restore(k), Check.BAD);
        }
        Check.due("as it was", x.boat(0, 0), 1);
    }

    private static void restoreState() {
        Doc.says("STATE: none was kept.");
        OverInDinghy x = new OverInDinghy();
        Check.due("without a club", x.restore(0), Check.STATE);
        Check.read(x, "sea 5 5;boat 1 1 1 1;");
        Check.due("0", x.restore(0), Check.STATE);
        x.image(1);
        Check.due("the other was", x.restore(0), Check.STATE);
        Check.due("this one", x.restore(1), 1);
        OverInDinghy y = boats(1);
        y.image(0);
        Check.due("the other was", y.restore(1), Check.STATE);
    }

    private static void kind() {
        Doc.says("The KIND of a BOAT, as she is (1 to 5).");
        OverInDinghy x = five();
        for (int b = 0; b < 5; b++) {
            Check.due("boat " + b, x.kind(b), b + 1);
        }
        x.tip(0);
        Check.due("as she is now", x.kind(0), 2);
    }

    private static void kindBad() {
        Doc.says("BAD.");
        OverInDinghy x = boats(2);
        int[] bad = {-1, 2, 6, LEAST, MOST};
        for (int b : bad) {
            Check.due("boat " + b, x.kind(b), Check.BAD);
        }
    }

    private static void as() {
        Doc.says("A BOAT is taken as one of a KIND (0 .. 5): her number.");
        OverInDinghy x = five();
        for (int b = 0; b < 5; b++) {
            Check.due("as a boat", x.as(b, 0), b);
            Check.due("as what she is", x.as(b, b + 1), b);
        }
        Check.due("stuck, as lying", x.as(3, 2), 3);
        Check.due("stuck, as round", x.as(3, 3), 3);
        Check.due("turned, as lying", x.as(2, 2), 2);
        Check.due("status", x.status(), 0);
    }

    private static void asBad() {
        Doc.says("BAD;");
        OverInDinghy x = boats(2);
        int[][] bad = {{-1, 0}, {2, 0}, {6, 0}, {LEAST, 0}, {MOST, 0}, {0, -1}, {0, 6}, {0, LEAST}, {0, MOST}};
        for (int[] b : bad) {
            Check.due(b[0] + ", " + b[1], x.as(b[0], b[1]), Check.BAD);
        }
    }

    private static void asKind() {
        Doc.says("KIND: she is no such one.");
        OverInDinghy x = five();
        int[][] not = {{0, 2}, {0, 3}, {0, 4}, {0, 5}, {1, 1}, {1, 3}, {1, 4}, {1, 5}, {2, 1}, {2, 4}, {2, 5}, {3, 1}, {3, 5},
            {4, 1}, {4, 2}, {4, 3}, {4, 4}};
        for (int[] n : not) {
            Check.due(n[0] + " as " + n[1], x.as(n[0], n[1]), Check.KIND);
            Check.due("status", x.status(), 3);
        }
    }

    private static void ask() {
        Doc.says("An ASK (0, 1) of a BOAT.");
        OverInDinghy x = five();
        Check.due("size", x.ask(4, 0), -64);
        Check.due("mark", x.ask(4, 1), -60);
        Check.due("nothing else changes", x.boat(4, 2), 64);
    }

    private static void askBad() {
        Doc.says("BAD.");
        OverInDinghy x = five();
        int[][] bad = {{-1, 0}, {5, 0}, {6, 0}, {LEAST, 0}, {MOST, 0}, {0, -1}, {0, 2}, {0, LEAST}, {0, MOST}};
        x.ask(1, 1);
        for (int[] b : bad) {
            Check.due(b[0] + ", " + b[1], x.ask(b[0], b[1]), Check.BAD);
            Check.due("what is refused changes nothing", x.trace(0), 21);
        }
    }

    private static void askEmpty() {
        Doc.says("THE TRACE is empty ahead of it.");
        OverInDinghy x = five();
        asked(x, 3, 0, 206, 14, 12, 11, 10, 22, 21, 20);
        asked(x, 0, 0, 0, 10);
        asked(x, 4, 0, -64, 13, 10);
    }

    private static void trace() {
        Doc.says("Number i of THE TRACE; NONE.");
        OverInDinghy x = five();
        Check.due("none was asked", x.trace(0), Check.NONE);
        x.ask(4, 0);
        Check.due("0", x.trace(0), 13);
        Check.due("1", x.trace(1), 10);
        int[] none = {2, 15, 16, 17, -1, LEAST, MOST};
        for (int i : none) {
            Check.due("trace(" + i + ")", x.trace(i), Check.NONE);
        }
        x.go(1, 1);
        x.kind(0);
        x.as(0, 0);
        Check.read(x, "sea 5 5;boat 1 1 1 1;");
        Check.due("it stays", x.trace(1), 10);
    }

    private static void count() {
        Doc.says("How many: 0 ROWS, 1 BOATS, 2 HANDS, 3 TICKS gone, 4 bytes on the tape, 5 HANDS who can't, 6 BOATS that are SIDED, TURNED or STUCK, 7 WIND.");
        OverInDinghy x = five();
        x.row(0, 0, 0);
        x.row(7, 0, 1);
        x.feed(0, 5);
        long[] due = {2, 5, 2, 7, 5, 0, 3, 0};
        for (int what = 0; what < 8; what++) {
            Check.due("count(" + what + ")", x.count(what), due[what]);
        }
        // all there can be
        x.club();
        for (int row = 0; row < 8; row++) {
            x.row(row, 0, 1);
        }
        StringBuilder most = new StringBuilder("sea 10 40;" + "boat 30 1 0 20;".repeat(6));
        for (int h = 0; h < 12; h++) {
            most.append("hand ").append(5 - h / 4).append(" 20 1;");
        }
        Check.read(x, most.toString());
        for (int b = 0; b < 6; b++) {
            x.tip(b);
        }
        x.go(6, 1);
        for (int i = 0; i < 50; i++) {
            x.feed(0, 8);
        }
        long[] edge = {8, 6, 12, 6, 400, 0, 6, 40};
        for (int what = 0; what < 8; what++) {
            Check.due("count(" + what + ")", x.count(what), edge[what]);
        }
        x.go(1, 1);
        Check.due("all of them can't", x.count(5), 12);
    }

    private static void countBad() {
        Doc.says("BAD.");
        OverInDinghy x = boats(1);
        int[] bad = {-1, 8, LEAST, MOST};
        for (int what : bad) {
            Check.due("count(" + what + ")", x.count(what), Check.BAD);
        }
    }
}
