/** "Terms" 1's rows, and promises 2 to 5 and 31. */
final class RowsSentences {
    private RowsSentences() {
    }

    static void all() {
        Doc.terms(1);
        missing();
        Doc.promise(2);
        row();
        rowBad();
        rowSize();
        Doc.promise(3);
        set();
        setBad();
        setNull();
        setPlace();
        Doc.promise(4);
        copy();
        copyBad();
        copyNull();
        copyStore();
        copyPlace();
        Doc.promise(5);
        drop();
        dropBad();
        dropNull();
        Doc.promise(31);
        status();
        statusNone();
    }

    /** No call reads an item, but by six boats the order and the cost of first tell a row's first six. */
    private static OverInDinghy six() {
        return Check.of("sea 5 5;" + "boat 1 1 1 1;".repeat(6));
    }

    private static void itemsAre(OverInDinghy x, int row, int... items) {
        long cost = 0;
        boolean[] taken = new boolean[6];
        for (int place = 0; place < 6; place++) {
            int best = -1;
            for (int b = 0; b < 6; b++) {
                if (!taken[b] && (best < 0 || items[b] > items[best])) {
                    best = b;
                }
            }
            taken[best] = true;
            cost += (long) items[best] * (place + 1);
            Check.due("place " + place, x.first(row, 1, 1, place), best);
        }
        Check.due("their cost", x.first(row, 1, 1, -1), cost);
    }

    private static void missing() {
        Doc.says("ROWS 0 .. 7 are missing (at first), or have a LANE (0 bytes, 1 shorts, 2 ints) and 0 to 40 ITEMS, 0 at first.");
        OverInDinghy x = six();
        for (int row = 0; row < 8; row++) {
            Check.due("missing: " + row, x.set(row, 0, 0), Check.NULL);
            Check.due("missing: " + row, x.drop(row), Check.NULL);
        }
        Check.due("none is there", x.count(0), 0);
        for (int lane = 0; lane < 3; lane++) {
            Check.due("no items", x.row(lane, lane, 0), 0);
            Check.due("no item 0", x.set(lane, 0, 1), Check.PLACE);
            Check.due("40 items", x.row(lane, lane, 40), 40);
            Check.due("item 39", x.set(lane, 39, 1), 1);
            Check.due("no item 40", x.set(lane, 40, 1), Check.PLACE);
            itemsAre(x, lane, 0, 0, 0, 0, 0, 0);
        }
        int[] bits = {8, 16, 32};
        for (int lane = 0; lane < 3; lane++) {
            int top = 1 << bits[lane] - 1;
            int least = -(1 << bits[lane] - 2) * 2;
            Check.due("the greatest of lane " + lane, x.set(lane, 0, top - 1), top - 1);
            Check.due("one more wraps round", x.set(lane, 0, top), least);
            Check.due("the least of lane " + lane, x.set(lane, 0, least), least);
            Check.due("one less wraps round", x.set(lane, 0, least - 1), top - 1);
        }
    }

    private static void row() {
        Doc.says("A ROW of a LANE with n ITEMS, in place of what is there: n.");
        OverInDinghy x = six();
        Check.due("row 0", x.row(0, 0, 12), 12);
        Check.due("row 7", x.row(7, 2, 40), 40);
        for (int i = 0; i < 12; i++) {
            x.set(0, i, 9);
        }
        Check.due("in place of it, the same", x.row(0, 0, 12), 12);
        itemsAre(x, 0, 0, 0, 0, 0, 0, 0);
        Check.due("shorter", x.row(0, 0, 0), 0);
        Check.due("no item is left", x.set(0, 0, 9), Check.PLACE);
        Check.due("longer", x.row(0, 0, 13), 13);
        Check.due("its last", x.set(0, 12, 9), 9);
        Check.due("of another lane", x.row(0, 1, 1), 1);
        Check.due("which it has now", x.set(0, 0, 255), 255);
        Check.due("still two rows", x.count(0), 2);
    }

    private static void rowBad() {
        Doc.says("BAD: ROW, LANE, n above 40;");
        OverInDinghy x = new OverInDinghy();
        Check.due("row -1", x.row(-1, 0, 1), Check.BAD);
        Check.due("row 8", x.row(8, 0, 1), Check.BAD);
        Check.due("the least row", x.row(Integer.MIN_VALUE, 0, 1), Check.BAD);
        Check.due("the greatest row", x.row(Integer.MAX_VALUE, 0, 1), Check.BAD);
        Check.due("lane -1", x.row(0, -1, 1), Check.BAD);
        Check.due("lane 3", x.row(0, 3, 1), Check.BAD);
        Check.due("n 41", x.row(0, 0, 41), Check.BAD);
        Check.due("the greatest n", x.row(0, 0, Integer.MAX_VALUE), Check.BAD);
        Check.due("none is there", x.count(0), 0);
        Check.due("n 40", x.row(0, 0, 40), 40);
        Check.due("lane 2", x.row(7, 2, 40), 40);
    }

    private static void rowSize() {
        Doc.says("SIZE.");
        OverInDinghy x = new OverInDinghy();
        Check.due("n -1", x.row(0, 0, -1), Check.SIZE);
        Check.due("the least n", x.row(0, 2, Integer.MIN_VALUE), Check.SIZE);
        Check.due("none is there", x.count(0), 0);
        Check.due("n 0", x.row(0, 0, 0), 0);
        x.row(1, 1, 3);
        Check.due("of one that is there", x.row(1, 0, -1), Check.SIZE);
        Check.due("which keeps its lane", x.set(1, 2, 300), 300);
    }

    private static void set() {
        Doc.says("ITEM i becomes v, its lowest bits, as many as the LANE has: what it is then.");
        OverInDinghy x = new OverInDinghy();
        x.row(0, 0, 1);
        x.row(1, 1, 1);
        x.row(2, 2, 1);
        int[][] due = {
            {0, 127, 127}, {0, 128, -128}, {0, 255, -1}, {0, 256, 0}, {0, 257, 1}, {0, -128, -128}, {0, -129, 127}, {0, 0x12345678, 0x78},
            {1, 32767, 32767}, {1, 32768, -32768}, {1, 65535, -1}, {1, 65536, 0}, {1, -32768, -32768}, {1, -32769, 32767},
            {1, 0x12345678, 0x5678}, {2, Integer.MAX_VALUE, Integer.MAX_VALUE}, {2, Integer.MIN_VALUE, Integer.MIN_VALUE}, {2, -1, -1}};
        for (int[] d : due) {
            Check.due("lane " + d[0] + ", " + d[1], x.set(d[0], 0, d[1]), d[2]);
        }
        OverInDinghy y = six();
        y.row(0, 0, 12);
        y.set(0, 5, 256 + 7);
        itemsAre(y, 0, 0, 0, 0, 0, 0, 7);
    }

    private static void setBad() {
        Doc.says("BAD: ROW;");
        OverInDinghy x = new OverInDinghy();
        x.row(0, 0, 1);
        x.row(7, 0, 1);
        Check.due("row -1", x.set(-1, 0, 0), Check.BAD);
        Check.due("row 0", x.set(0, 0, 3), 3);
        Check.due("row 7", x.set(7, 0, 3), 3);
        Check.due("row 8", x.set(8, 0, 0), Check.BAD);
    }

    private static void setNull() {
        Doc.says("NULL;");
        OverInDinghy x = new OverInDinghy();
        Check.due("never there", x.set(7, 0, 0), Check.NULL);
        x.row(7, 0, 1);
        x.drop(7);
        Check.due("no more there", x.set(7, 0, 0), Check.NULL);
        Check.due("ahead of PLACE", x.set(7, -1, 0), Check.NULL);
    }

    private static void setPlace() {
        Doc.says("PLACE.");
        OverInDinghy x = new OverInDinghy();
        x.row(0, 0, 3);
        Check.due("-1", x.set(0, -1, 0), Check.PLACE);
        Check.due("0", x.set(0, 0, 1), 1);
        Check.due("2", x.set(0, 2, 1), 1);
        Check.due("3", x.set(0, 3, 0), Check.PLACE);
        Check.due("the least", x.set(0, Integer.MIN_VALUE, 0), Check.PLACE);
        Check.due("the greatest", x.set(0, Integer.MAX_VALUE, 0), Check.PLACE);
        x.row(0, 0, 0);
        Check.due("0 of none", x.set(0, 0, 0), Check.PLACE);
    }

    private static void copy() {
        Doc.says("n ITEMS of a from i on come to b from j on, as they were ahead: n.");
        OverInDinghy x = six();
        Check.items(x, 0, 1, 2, 3, 4, 5, 6);
        Check.due("to the right, over themselves", x.copy(0, 0, 0, 1, 5), 5);
        itemsAre(x, 0, 1, 1, 2, 3, 4, 5);
        Check.due("to the left, over themselves", x.copy(0, 2, 0, 0, 4), 4);
        itemsAre(x, 0, 2, 3, 4, 5, 4, 5);
        Check.items(x, 1, 9, 9, 9, 9, 9, 9);
        Check.due("to another", x.copy(0, 1, 1, 2, 2), 2);
        itemsAre(x, 1, 9, 9, 3, 4, 9, 9);
        itemsAre(x, 0, 2, 3, 4, 5, 4, 5);
        Check.due("none", x.copy(0, 0, 1, 0, 0), 0);
        itemsAre(x, 1, 9, 9, 3, 4, 9, 9);
        Check.due("all", x.copy(0, 0, 1, 0, 6), 6);
        itemsAre(x, 1, 2, 3, 4, 5, 4, 5);
        Check.due("all onto themselves", x.copy(0, 0, 0, 0, 6), 6);
        itemsAre(x, 0, 2, 3, 4, 5, 4, 5);
    }

    private static void copyBad() {
        Doc.says("BAD: ROWS;");
        OverInDinghy x = new OverInDinghy();
        x.row(0, 0, 1);
        x.row(7, 0, 1);
        Check.due("from -1", x.copy(-1, 0, 0, 0, 1), Check.BAD);
        Check.due("to -1", x.copy(0, 0, -1, 0, 1), Check.BAD);
        Check.due("from 8", x.copy(8, 0, 0, 0, 1), Check.BAD);
        Check.due("to 8", x.copy(0, 0, 8, 0, 1), Check.BAD);
        Check.due("from 0 to 7", x.copy(0, 0, 7, 0, 1), 1);
        Check.due("from 7 to 0", x.copy(7, 0, 0, 0, 1), 1);
    }

    private static void copyNull() {
        Doc.says("NULL;");
        OverInDinghy x = new OverInDinghy();
        x.row(0, 0, 1);
        Check.due("the first", x.copy(1, 0, 0, 0, 1), Check.NULL);
        Check.due("the second", x.copy(0, 0, 1, 0, 1), Check.NULL);
        Check.due("both, and none to copy", x.copy(1, 0, 1, 0, 0), Check.NULL);
    }

    private static void copyStore() {
        Doc.says("STORE;");
        OverInDinghy x = new OverInDinghy();
        for (int lane = 0; lane < 3; lane++) {
            x.row(lane, lane, 2);
            x.row(3 + lane, lane, 2);
        }
        for (int a = 0; a < 6; a++) {
            for (int b = 0; b < 6; b++) {
                Check.due(a + " to " + b, x.copy(a, 0, b, 0, 0), a % 3 == b % 3 ? 0 : Check.STORE);
            }
        }
        Check.due("ahead of PLACE", x.copy(0, 0, 1, 0, -1), Check.STORE);
    }

    private static void copyPlace() {
        Doc.says("PLACE (i, j, n below 0, or beyond an end).");
        OverInDinghy x = new OverInDinghy();
        x.row(0, 0, 5);
        x.row(1, 0, 3);
        int[][] good = {{0, 0, 0}, {0, 0, 3}, {2, 0, 3}, {4, 2, 1}, {5, 3, 0}, {5, 0, 0}, {0, 3, 0}};
        for (int[] g : good) {
            Check.due(g[0] + " " + g[1] + " " + g[2], x.copy(0, g[0], 1, g[1], g[2]), g[2]);
        }
        int most = Integer.MAX_VALUE;
        int[][] bad = {{-1, 0, 1}, {0, -1, 1}, {0, 0, -1}, {-1, 0, 0}, {0, -1, 0}, {3, 0, 3}, {5, 0, 1}, {6, 0, 0}, {0, 1, 3}, {0, 3, 1},
            {0, 4, 0}, {0, 0, 4}, {most, 0, 1}, {1, 0, most}, {most, 0, most}, {0, most, 1}, {0, 1, most},
            {Integer.MIN_VALUE, 0, 0}, {0, Integer.MIN_VALUE, 0}, {0, 0, Integer.MIN_VALUE}, {5, 0, -1}};
        for (int[] b : bad) {
            Check.due(b[0] + " " + b[1] + " " + b[2], x.copy(0, b[0], 1, b[1], b[2]), Check.PLACE);
        }
    }

    private static void drop() {
        Doc.says("A ROW is missing from now on: how many ITEMS it had.");
        OverInDinghy x = new OverInDinghy();
        x.row(0, 0, 0);
        x.row(7, 2, 40);
        Check.due("none", x.drop(0), 0);
        Check.due("40", x.drop(7), 40);
        Check.due("none is there", x.count(0), 0);
        Check.due("not there", x.set(7, 0, 0), Check.NULL);
        Check.due("anew", x.row(7, 0, 1), 1);
        Check.due("has one item", x.drop(7), 1);
    }

    private static void dropBad() {
        Doc.says("BAD;");
        OverInDinghy x = new OverInDinghy();
        x.row(0, 0, 1);
        Check.due("-1", x.drop(-1), Check.BAD);
        Check.due("8", x.drop(8), Check.BAD);
        Check.due("one is there", x.count(0), 1);
    }

    private static void dropNull() {
        Doc.says("NULL.");
        OverInDinghy x = new OverInDinghy();
        Check.due("never there", x.drop(0), Check.NULL);
        x.row(0, 0, 1);
        x.drop(0);
        Check.due("no more there", x.drop(0), Check.NULL);
    }

    private static void status() {
        Doc.says("Of the latest call with a ROW, or as(), that was not BAD, STATE, FULL: the number of its FINDING;");
        OverInDinghy x = Check.of("sea 5 5;boat 1 1 1 1;boat 1 1 1 1;");
        x.row(0, 0, 1);
        x.row(1, 1, 1);
        long[] findings = {x.set(2, 0, 0), x.status(), x.set(0, 1, 0), x.status(), x.as(0, 2), x.status(), x.row(0, 0, -1), x.status(),
            x.copy(0, 0, 1, 0, 0), x.status()};
        for (int i = 0; i < findings.length; i += 2) {
            Check.due("status() of finding " + (i / 2 + 1), findings[i + 1], i / 2 + 1);
            Check.due("finding " + (i / 2 + 1), findings[i], Check.NOT - 10 - (i / 2 + 1));
        }
        x.row(8, 0, 0);
        x.set(-1, 0, 0);
        x.copy(0, 0, 8, 0, 0);
        x.drop(9);
        x.first(0, 3, 1, 0);
        x.heads(0, 3);
        x.as(0, 6);
        x.as(2, 0);
        Check.due("calls that are BAD leave it", x.status(), 5);
        OverInDinghy y = new OverInDinghy();
        y.drop(0);
        y.first(0, 1, 1, 0);
        y.heads(0, 0);
        Check.due("calls with a row that are STATE leave it", y.status(), 1);
        for (int i = 0; i < 51; i++) {
            y.feed(0, 8);
        }
        y.club();
        y.airs(1);
        y.kind(0);
        y.ask(0, 0);
        y.image(0);
        y.restore(0);
        y.trace(0);
        y.count(0);
        y.fault();
        y.go(1, 1);
        Check.due("other calls leave it", y.status(), 1);
        x.drop(5);
        x.first(0, 1, 1, 0);
        Check.due("first finds", x.status(), 2);
        x.drop(5);
        x.heads(0, 0);
        Check.due("heads finds", x.status(), 2);
        x.first(6, 1, 1, 0);
        Check.due("first finds a row that is missing", x.status(), 1);
        x.set(0, 9, 9);
        x.heads(6, 0);
        Check.due("heads finds a row that is missing", x.status(), 1);
    }

    private static void statusNone() {
        Doc.says("0: it had none, or there was none.");
        OverInDinghy x = new OverInDinghy();
        Check.due("a new object", x.status(), 0);
        x.row(8, 0, 0);
        Check.due("BAD alone", x.status(), 0);
        Check.read(x, "sea 5 5;boat 1 1 1 1;");
        x.row(0, 0, 2);
        x.row(1, 0, 2);
        int calls = 7;
        for (int call = 0; call < calls; call++) {
            x.drop(7);
            Check.due("one finding", x.status(), 1);
            switch (call) {
                case 0: x.row(2, 0, 0); break;
                case 1: x.set(0, 0, 1); break;
                case 2: x.copy(0, 0, 1, 0, 1); break;
                case 3: x.drop(2); break;
                case 4: x.first(0, 1, 1, 5); break;
                case 5: x.heads(0, 0); break;
                default: x.as(0, 1);
            }
            Check.due("none by call " + call, x.status(), 0);
        }
    }
}
