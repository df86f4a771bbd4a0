/** Promises 1 to 5 and 31: a new object, row, set, copy, drop, status. */
public final class RowsTest {
    public static void main(String[] args) {
        newObject();
        row();
        set();
        copy();
        overlaps();
        drop();
        status();
        Check.end();
    }

    private static void newObject() {
        OverInDinghy x = new OverInDinghy();
        for (int what = 0; what < 8; what++) {
            Check.due("1: count(" + what + ")", x.count(what), 0);
        }
        Check.due("1: go", x.go(1, 1), Check.STATE);
        Check.due("1: image", x.image(0), Check.STATE);
        Check.due("1: boat", x.boat(0, 0), Check.BAD);
        Check.due("1: fault", x.fault(), 0);
        Check.due("1: status", x.status(), 0);
        Check.due("1: trace", x.trace(0), Check.NONE);
        Check.due("1: NONE", OverInDinghy.NONE, Check.NONE);
        Check.due("1: NOT", OverInDinghy.NOT, Check.NOT);
    }

    private static void row() {
        OverInDinghy x = new OverInDinghy();
        Check.due("2: row -1", x.row(-1, 0, 1), Check.BAD);
        Check.due("2: row 8", x.row(8, 0, 1), Check.BAD);
        Check.due("2: lane -1", x.row(0, -1, 1), Check.BAD);
        Check.due("2: lane 3", x.row(0, 3, 1), Check.BAD);
        Check.due("2: 41", x.row(0, 0, 41), Check.BAD);
        Check.due("2: BAD ahead of SIZE", x.row(8, 0, -1), Check.BAD);
        Check.due("2: -1", x.row(0, 0, -1), Check.SIZE);
        Check.due("2: least int", x.row(0, 0, Integer.MIN_VALUE), Check.SIZE);
        Check.due("2: none was made", x.count(0), 0);
        Check.due("2: 0 items", x.row(0, 0, 0), 0);
        Check.due("2: 40 items", x.row(7, 2, 40), 40);
        Check.due("2: two there", x.count(0), 2);
        x.set(7, 39, 5);
        Check.due("2: SIZE leaves what is there", x.row(7, 0, -5), Check.SIZE);
        Check.due("2: still 40", x.set(7, 39, 5), 5);
        Check.due("2: in place of it", x.row(7, 2, 40), 40);
        Check.due("2: no third", x.count(0), 2);
        x.row(6, 2, 1);
        x.copy(7, 39, 6, 0, 1);
        Check.due("2: all 0 again", x.drop(6), 1);
        OverInDinghy y = Check.of("sea 1 1;boat 1 1 1 1;");
        Check.items(y, 0, 50);
        y.row(0, 1, 1);
        Check.due("2: 0 at first", y.first(0, 1, 1, -1), 0);
    }

    private static void set() {
        OverInDinghy x = new OverInDinghy();
        Check.due("3: row -1", x.set(-1, 0, 1), Check.BAD);
        Check.due("3: row 8", x.set(8, 0, 1), Check.BAD);
        Check.due("3: missing", x.set(0, 0, 1), Check.NULL);
        x.row(0, 0, 3);
        x.row(1, 1, 3);
        x.row(2, 2, 3);
        Check.due("3: place -1", x.set(0, -1, 1), Check.PLACE);
        Check.due("3: place 3", x.set(0, 3, 1), Check.PLACE);
        Check.due("3: byte 127", x.set(0, 0, 127), 127);
        Check.due("3: byte 128", x.set(0, 1, 128), -128);
        Check.due("3: byte 256", x.set(0, 2, 256), 0);
        Check.due("3: byte -1", x.set(0, 2, -1), -1);
        Check.due("3: short 32767", x.set(1, 0, 32767), 32767);
        Check.due("3: short 32768", x.set(1, 1, 32768), -32768);
        Check.due("3: short 65536", x.set(1, 2, 65536), 0);
        Check.due("3: int", x.set(2, 2, Integer.MIN_VALUE), Integer.MIN_VALUE);
        x.row(3, 0, 0);
        Check.due("3: no items", x.set(3, 0, 0), Check.PLACE);
    }

    private static void copy() {
        OverInDinghy x = new OverInDinghy();
        Check.due("4: row -1", x.copy(-1, 0, 0, 0, 0), Check.BAD);
        Check.due("4: row 8", x.copy(0, 0, 8, 0, 0), Check.BAD);
        x.row(0, 0, 4);
        Check.due("4: b missing", x.copy(0, 0, 1, 0, 0), Check.NULL);
        Check.due("4: a missing", x.copy(1, 0, 0, 0, 0), Check.NULL);
        Check.due("4: NULL ahead of PLACE", x.copy(1, -1, 0, 0, 9), Check.NULL);
        x.row(1, 1, 4);
        Check.due("4: two lanes", x.copy(0, 0, 1, 0, 0), Check.STORE);
        Check.due("4: STORE ahead of PLACE", x.copy(0, -1, 1, 0, 9), Check.STORE);
        x.row(1, 0, 6);
        Check.due("4: i", x.copy(0, -1, 1, 0, 1), Check.PLACE);
        Check.due("4: j", x.copy(0, 0, 1, -1, 1), Check.PLACE);
        Check.due("4: n", x.copy(0, 0, 1, 0, -1), Check.PLACE);
        Check.due("4: a's end", x.copy(0, 1, 1, 0, 4), Check.PLACE);
        Check.due("4: b's end", x.copy(0, 0, 1, 3, 4), Check.PLACE);
        Check.due("4: sums do not wrap", x.copy(0, Integer.MAX_VALUE, 1, 0, Integer.MAX_VALUE), Check.PLACE);
        Check.due("4: sums of j do not wrap", x.copy(0, 0, 1, Integer.MAX_VALUE, 4), Check.PLACE);
        Check.due("4: to the ends", x.copy(0, 0, 1, 2, 4), 4);
        Check.due("4: none at the end", x.copy(0, 4, 1, 6, 0), 0);
        Check.due("4: one behind the end", x.copy(0, 5, 1, 0, 0), Check.PLACE);
    }

    private static void overlaps() {
        // six boats tell what the items are: the cost of an order by their odds
        OverInDinghy x = Check.of("sea 1 1;boat 1 1 1 1;boat 1 1 1 1;boat 1 1 1 1;");
        Check.items(x, 0, 1, 2, 3, 4);
        Check.due("4: forward", x.copy(0, 0, 0, 1, 3), 3);
        // 1 1 2 3: the first three by odds: 2, 1, 1
        Check.due("4: as they were ahead", x.first(0, 1, 1, -1), 2 + 2 + 3);
        Check.due("4: 2 is last", x.first(0, 1, 1, 0), 2);
        Check.items(x, 0, 1, 2, 3, 4);
        Check.due("4: backward", x.copy(0, 1, 0, 0, 3), 3);
        // 2 3 4 4
        Check.due("4: as they were ahead, backward", x.first(0, 1, 1, -1), 4 + 6 + 6);
        Check.items(x, 1, 9, 9, 9, 9);
        x.copy(0, 0, 1, 0, 2);
        Check.due("4: from row to row", x.first(1, 1, 1, -1), 9 + 6 + 6);
    }

    private static void drop() {
        OverInDinghy x = new OverInDinghy();
        Check.due("5: row -1", x.drop(-1), Check.BAD);
        Check.due("5: row 8", x.drop(8), Check.BAD);
        Check.due("5: missing", x.drop(0), Check.NULL);
        x.row(0, 1, 17);
        Check.due("5: drop", x.drop(0), 17);
        Check.due("5: gone", x.drop(0), Check.NULL);
        Check.due("5: count", x.count(0), 0);
        x.row(0, 1, 0);
        Check.due("5: with no items", x.drop(0), 0);
    }

    private static void status() {
        OverInDinghy x = new OverInDinghy();
        x.set(0, 0, 0);
        Check.due("31: NULL", x.status(), 1);
        x.row(9, 0, 0);
        Check.due("31: BAD leaves it", x.status(), 1);
        x.first(0, 1, 1, 0);
        Check.due("31: STATE leaves it", x.status(), 1);
        x.feed(0, 1);
        x.airs(1);
        x.kind(0);
        Check.due("31: other calls leave it", x.status(), 1);
        x.row(0, 0, 2);
        Check.due("31: none", x.status(), 0);
        x.set(0, 2, 0);
        Check.due("31: PLACE", x.status(), 2);
        x.row(1, 1, 2);
        Check.due("31: none", x.status(), 0);
        x.copy(0, 0, 1, 0, 1);
        Check.due("31: STORE", x.status(), 5);
        x.row(1, 1, -2);
        Check.due("31: SIZE", x.status(), 4);
        x.drop(1);
        Check.due("31: none", x.status(), 0);
        x.feed(0x3b, 1);
        x.club();
        Check.read(x, "sea 5 5;boat 1 1 1 1;boat 1 1 1 1;boat 1 1 1 1;");
        x.as(0, 2);
        Check.due("31: KIND", x.status(), 3);
        x.as(0, 6);
        Check.due("31: as BAD leaves it", x.status(), 3);
        x.as(0, 1);
        Check.due("31: as", x.status(), 0);
        x.first(0, 1, 1, 0);
        Check.due("31: first PLACE", x.status(), 2);
        Check.items(x, 0, 1, 100, 1);
        x.drop(1);
        Check.due("31: drop NULL", x.status(), 1);
        x.first(0, 1, 1, 0);
        Check.due("31: first BAD leaves it", x.status(), 1);
        x.set(0, 1, 99);
        x.heads(1, 0);
        Check.due("31: heads NULL", x.status(), 1);
        x.first(0, 1, 1, 3);
        Check.due("31: first NONE has no finding", x.status(), 0);
        x.heads(0, 0);
        Check.due("31: heads PLACE", x.status(), 2);
        Check.items(x, 0, 1, 1, 1, 1, 1, 10);
        x.drop(1);
        x.heads(0, 0);
        Check.due("31: heads BAD leaves it", x.status(), 1);
        x.set(0, 5, 9);
        x.drop(1);
        x.heads(0, 0);
        Check.due("31: heads", x.status(), 0);
    }
}
