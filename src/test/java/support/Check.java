/** What every test here uses: a count of wrong answers, and the refusals by name. */
final class Check {
    static final long NOT = -9000000000000000000L;
    static final long BAD = NOT - 1;
    static final long STATE = NOT - 2;
    static final long FULL = NOT - 3;
    static final long NULL = NOT - 11;
    static final long PLACE = NOT - 12;
    static final long KIND = NOT - 13;
    static final long SIZE = NOT - 14;
    static final long STORE = NOT - 15;
    static final long NONE = -1000000;

    private static int wrong;
    private static int made;
    private static String about = "";

    private Check() {
    }

    static void due(String call, long got, long want) {
        made++;
        if (got != want) {
            wrong++;
            if (wrong <= 50) {
                System.out.println(about + call + " answered " + got + ", due is " + want);
            }
        }
    }

    /** What stands ahead of each wrong answer from now on. */
    static void about(String what) {
        about = what;
    }

    /** How many answers were looked at. */
    static int made() {
        return made;
    }

    static void holds(String what, boolean so) {
        due(what, so ? 1 : 0, 1);
    }

    /** The last line of every test's main. */
    static void end() {
        System.out.println(wrong == 0 ? "all answers are as due" : wrong + " answers are not as due");
        if (wrong != 0) {
            System.exit(1);
        }
    }

    static void feed(OverInDinghy x, String text) {
        for (int at = 0; at < text.length(); at += 8) {
            int n = Math.min(8, text.length() - at);
            long w = 0;
            for (int i = 0; i < n; i++) {
                w = w << 8 | text.charAt(at + i) & 255;
            }
            x.feed(w, n);
        }
    }

    static long read(OverInDinghy x, String text) {
        feed(x, text);
        return x.club();
    }

    /** A new object with a club. */
    static OverInDinghy of(String text) {
        OverInDinghy x = new OverInDinghy();
        holds("club of " + text, read(x, text) > 0);
        return x;
    }

    /** A row of ints with these items. */
    static void items(OverInDinghy x, int row, int... items) {
        x.row(row, 2, items.length);
        for (int i = 0; i < items.length; i++) {
            x.set(row, i, items[i]);
        }
    }
}
