import java.util.Random;

/** Promises 1 to 31 at once: random runs of at most 512 calls, asked of the class and of the plain model. */
public final class RandomRunsTest {
    private static final int RUNS = Integer.getInteger("dinghy.runs", 2500);
    // the longest step feeds a text of some 400 bytes, 3 at a time
    private static final int LAST_STEP = 512 - 150;

    private static Random random;
    private static OverInDinghy x;
    private static Model y;
    private static int run;
    private static int calls;

    public static void main(String[] args) {
        for (run = 0; run < RUNS; run++) {
            random = new Random(run);
            x = new OverInDinghy();
            y = new Model();
            calls = 0;
            while (calls < LAST_STEP) {
                oneStep();
            }
        }
        Check.end();
    }

    /** Mostly within, now and then just outside or far away. */
    private static int some(int least, int most) {
        int die = random.nextInt(60);
        if (die == 0) {
            return least - 1;
        }
        if (die == 1) {
            return most + 1;
        }
        if (die == 2) {
            return random.nextBoolean() ? Integer.MIN_VALUE : Integer.MAX_VALUE;
        }
        return least + random.nextInt(most - least + 1);
    }

    private static int within(int least, int most) {
        return least + random.nextInt(most - least + 1);
    }

    private static void due(String call, long got, long want) {
        calls++;
        Check.due("run " + run + ": " + call, got, want);
    }

    private static void oneStep() {
        int die = random.nextInt(100);
        if (die < 3 || y.count(1) == 0 && die < 40) {
            read();
        } else if (die < 20) {
            rowCall();
        } else if (die < 45) {
            tickCall();
        } else if (die < 85) {
            foretoldCall();
        } else {
            askCall();
        }
        due("status()", x.status(), y.status());
    }

    private static void read() {
        String text = text();
        for (int at = 0; at < text.length(); ) {
            int n = Math.min(within(3, 8), text.length() - at);
            long w = random.nextLong();
            for (int i = 0; i < n; i++) {
                w = w << 8 | text.charAt(at + i);
            }
            due("feed(" + w + ", " + n + ")", x.feed(w, n), y.feed(w, n));
            at += n;
        }
        int n = some(1, 8);
        if (random.nextInt(8) == 0) {
            due("feed(" + n + ")", x.feed(10, n), y.feed(10, n));
        }
        due("club() of " + text, x.club(), y.club());
        due("fault() of " + text, x.fault(), y.fault());
    }

    private static String text() {
        StringBuilder s = new StringBuilder();
        int boats = some(1, 6) & 7;
        int hands = random.nextInt(8) == 0 ? within(0, 14) : within(2, 12);
        s.append("sea").append(gap()).append(number(0, 30)).append(gap()).append(number(0, random.nextBoolean() ? 40 : 9));
        s.append(random.nextInt(3) == 0 ? " mud" : "").append(sign());
        for (int b = 0; b < boats; b++) {
            s.append("boat").append(gap()).append(number(1, 30)).append(gap()).append(number(1, random.nextBoolean() ? 30 : 9));
            s.append(gap()).append(number(0, 9)).append(gap()).append(number(0, 20)).append(sign());
        }
        for (int h = 0; h < hands; h++) {
            s.append("hand").append(gap()).append(within(0, Math.max(0, boats - 1))).append(gap());
            s.append(number(20, 150)).append(gap()).append(number(1, random.nextBoolean() ? 60 : 5)).append(sign());
        }
        if (random.nextInt(4) == 0) {
            int at = random.nextInt(s.length());
            String junk = "seboathndmu0159; \nA#\u00e9";
            s.setCharAt(at, junk.charAt(random.nextInt(junk.length())));
        }
        if (random.nextInt(8) == 0) {
            s.setLength(random.nextInt(s.length()));
        }
        return s.toString();
    }

    private static String gap() {
        return random.nextInt(20) == 0 ? " \n" : random.nextInt(20) == 0 ? "" : " ";
    }

    private static String sign() {
        return random.nextInt(200) == 0 ? "" : random.nextInt(200) == 0 ? ";;" : " ;".substring(random.nextInt(2));
    }

    private static String number(int least, int most) {
        int v = random.nextInt(200) == 0 ? most + 1 : random.nextInt(200) == 0 ? Math.max(0, least - 1) : within(least, most);
        return random.nextInt(40) == 0 ? "0" + v : String.valueOf(v);
    }

    private static void rowCall() {
        int a = some(0, 7);
        int b = random.nextBoolean() ? a : some(0, 7);
        int i = random.nextBoolean() ? some(0, 12) : some(0, 40);
        int j = some(0, 12);
        int n = random.nextBoolean() ? some(0, 12) : some(0, 40);
        int lane = some(0, 2);
        switch (random.nextInt(8)) {
            case 0:
            case 1:
                due("row(" + a + ", " + lane + ", " + n + ")", x.row(a, lane, n), y.row(a, lane, n));
                break;
            case 2:
            case 3:
            case 4:
                int v = random.nextInt(4) == 0 ? random.nextInt() : within(0, 9);
                due("set(" + a + ", " + i + ", " + v + ")", x.set(a, i, v), y.set(a, i, v));
                break;
            case 5:
            case 6:
                due("copy(" + a + ", " + i + ", " + b + ", " + j + ", " + n + ")",
                        x.copy(a, i, b, j, n), y.copy(a, i, b, j, n));
                break;
            default:
                due("drop(" + a + ")", x.drop(a), y.drop(a));
        }
    }

    private static void tickCall() {
        int hands = (int) y.count(2);
        int boats = (int) y.count(1);
        int h = some(0, Math.max(0, hands - 1));
        int b = some(0, Math.max(0, boats - 1));
        switch (random.nextInt(5)) {
            case 0:
            case 1:
                int place = some(0, 3);
                due("place(" + h + ", " + place + ")", x.place(h, place), y.place(h, place));
                break;
            case 2:
                due("tip(" + b + ")", x.tip(b), y.tip(b));
                break;
            default:
                int n = random.nextInt(6) == 0 ? some(1, 60) : some(1, 2);
                int seed = some(1, 999999);
                due("go(" + n + ", " + seed + ")", x.go(n, seed), y.go(n, seed));
                for (int i = 0; i < boats; i++) {
                    for (int what = 0; what < 7; what++) {
                        due("boat(" + i + ", " + what + ")", x.boat(i, what), y.boat(i, what));
                    }
                }
                for (int i = 0; i < hands; i++) {
                    due("hand(" + i + ", 2)", x.hand(i, 2), y.hand(i, 2));
                    due("hand(" + i + ", 3)", x.hand(i, 3), y.hand(i, 3));
                }
        }
    }

    private static void foretoldCall() {
        int b = some(0, Math.max(0, (int) y.count(1) - 1));
        int h = some(0, Math.max(0, (int) y.count(2) - 1));
        int a = some(0, 7);
        int n = some(1, 7);
        int what = some(0, 1);
        switch (random.nextInt(15)) {
            case 0:
            case 1:
                int m = some(0, 100);
                int bow = random.nextBoolean() ? -1 : h;
                int i = some(-1, 5);
                due("rights(" + b + ", " + m + ", " + bow + ", " + i + ")", x.rights(b, m, bow, i), y.rights(b, m, bow, i));
                break;
            case 2:
                due("lightest(" + b + ")", x.lightest(b), y.lightest(b));
                break;
            case 3:
                due("round(" + b + ")", x.round(b), y.round(b));
                break;
            case 4:
                due("quickest(" + b + ", " + what + ")", x.quickest(b, what), y.quickest(b, what));
                break;
            case 5:
                int t = some(1, 60);
                due("tries(" + h + ", " + t + ")", x.tries(h, t), y.tries(h, t));
                break;
            case 6:
                due("airs(" + n + ")", x.airs(n), y.airs(n));
                break;
            case 7:
            case 8:
                int r = some(1, 2);
                int minutes = some(1, 20);
                int place = some(-1, 6);
                due("first(" + a + ", " + r + ", " + minutes + ", " + place + ")",
                        x.first(a, r, minutes, place), y.first(a, r, minutes, place));
                break;
            case 9:
                int p = some(0, 100);
                int rescuers = some(0, 7);
                due("over(" + n + ", " + p + ", " + rescuers + ", " + what + ")",
                        x.over(n, p, rescuers, what), y.over(n, p, rescuers, what));
                break;
            case 10:
                int q = some(0, 999);
                int out = some(0, 7);
                due("staysIn(" + n + ", " + out + ", " + q + ")", x.staysIn(n, out, q), y.staysIn(n, out, q));
                break;
            case 11:
            case 12:
                int side = some(0, 2);
                due("heads(" + a + ", " + side + ")", x.heads(a, side), y.heads(a, side));
                break;
            case 13:
                due("image(" + what + ")", x.image(what), y.image(what));
                break;
            default:
                due("restore(" + what + ")", x.restore(what), y.restore(what));
        }
    }

    private static void askCall() {
        int b = some(0, Math.max(0, (int) y.count(1) - 1));
        int h = some(0, Math.max(0, (int) y.count(2) - 1));
        int what = some(0, 7);
        switch (random.nextInt(6)) {
            case 0:
                due("kind(" + b + ")", x.kind(b), y.kind(b));
                break;
            case 1:
                due("as(" + b + ", " + what + ")", x.as(b, what), y.as(b, what));
                break;
            case 2:
                int ask = some(0, 1);
                due("ask(" + b + ", " + ask + ")", x.ask(b, ask), y.ask(b, ask));
                for (int i = -1; i < 17; i++) {
                    due("trace(" + i + ")", x.trace(i), y.trace(i));
                }
                break;
            case 3:
                due("count(" + what + ")", x.count(what), y.count(what));
                break;
            case 4:
                due("boat(" + b + ", " + what + ")", x.boat(b, what), y.boat(b, what));
                break;
            default:
                due("hand(" + h + ", " + what + ")", x.hand(h, what), y.hand(h, what));
        }
    }
}
