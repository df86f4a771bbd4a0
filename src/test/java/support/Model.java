import java.math.BigInteger;
import java.util.ArrayList;
import java.util.List;

/**
 * The document once more, in the most plain and wasteful way: nothing is pruned, nothing is shared with the class
 * under test. Random runs ask both the same.
 */
final class Model {
    static final class Hand {
        int number;
        int boat;
        int weight;
        int lasts;
        int place;
        int grip = 1000;

        boolean can() {
            return grip > 0;
        }

        Hand twin() {
            Hand t = new Hand();
            t.number = number;
            t.boat = boat;
            t.weight = weight;
            t.lasts = lasts;
            t.place = place;
            t.grip = grip;
            return t;
        }
    }

    enum How { UP, SIDED, TURNED, STUCK, FULL }

    static final class Boat {
        int number;
        int beam;
        int sail;
        int air;
        int floats;
        How how = How.UP;
        int mast;
        int water;
        int sided;
        List<Hand> crew = new ArrayList<>();

        Boat twin() {
            Boat t = new Boat();
            t.number = number;
            t.beam = beam;
            t.sail = sail;
            t.air = air;
            t.floats = floats;
            t.how = how;
            t.mast = mast;
            t.water = water;
            t.sided = sided;
            for (Hand h : crew) {
                t.crew.add(h.twin());
            }
            return t;
        }

        boolean upright() {
            return how == How.UP || how == How.FULL;
        }

        boolean bowHeld() {
            return crew.stream().anyMatch(h -> h.place == 3 && h.can());
        }

        int weightIn() {
            return crew.stream().filter(h -> h.place == 0).mapToInt(h -> h.weight).sum();
        }

        int lever() {
            return crew.stream().filter(h -> h.place == 2 && h.can()).mapToInt(h -> h.weight).sum() * beam / 10;
        }

        void over() {
            how = How.SIDED;
            mast = 0;
            water = 0;
            sided++;
            crew.stream().filter(h -> h.place == 0).forEach(h -> h.place = 1);
        }
    }

    static final class Club {
        int warmth;
        int wind;
        boolean mud;
        int ticks;
        long x;
        List<Boat> boats = new ArrayList<>();
        List<Hand> hands = new ArrayList<>();

        Club twin() {
            Club t = new Club();
            t.warmth = warmth;
            t.wind = wind;
            t.mud = mud;
            t.ticks = ticks;
            for (Boat b : boats) {
                t.boats.add(b.twin());
            }
            for (Hand h : hands) {
                for (Hand g : t.boats.get(h.boat).crew) {
                    if (g.number == h.number) {
                        t.hands.add(g);
                    }
                }
            }
            return t;
        }

        int need(Boat b) {
            return 10 * b.sail + b.mast + (b.bowHeld() ? 0 : 2 * wind);
        }

        long draw() {
            x = BigInteger.valueOf(x).multiply(BigInteger.valueOf(16807)).mod(BigInteger.valueOf(2147483647)).longValue();
            return x;
        }

        void tick(Boat b, boolean draws) {
            How began = b.how;
            int need = need(b);
            int lever = b.lever();
            if (began == How.UP || began == How.FULL) {
                boolean tips = false;
                if (draws) {
                    long gust = wind + draw() % 10;
                    tips = gust * b.sail > b.weightIn() + 5 * b.beam - b.water;
                }
                if (tips) {
                    b.over();
                } else if (began == How.FULL) {
                    int able = (int) b.crew.stream().filter(h -> h.place == 0 && h.can()).count();
                    b.water -= 5 * able + b.air;
                    if (b.water <= 0) {
                        b.water = 0;
                        b.how = How.UP;
                    }
                }
            }
            if (began == How.SIDED && need <= lever) {
                b.how = How.FULL;
                b.water = 70 - 6 * b.air;
                b.mast = 0;
                b.crew.stream().filter(h -> h.place == 2).forEach(h -> h.place = 0);
                if (draws && !b.bowHeld() && draw() % 100 < 2 * wind) {
                    b.over();
                }
            } else if (began == How.SIDED) {
                b.mast += 20 - b.floats;
                if (b.mast >= 100) {
                    b.mast = 100;
                    b.how = mud ? How.STUCK : How.TURNED;
                }
            }
            if (began == How.TURNED && 2 * need <= lever) {
                b.how = How.SIDED;
                b.mast = 50;
                b.sided++;
            }
            if (began == How.STUCK && 3 * need <= lever) {
                b.how = How.TURNED;
            }
            for (Hand h : b.crew) {
                if (h.place != 0 || b.how == How.FULL) {
                    h.grip = Math.max(0, h.grip - cold(h));
                }
            }
        }

        int cold(Hand h) {
            int a = 1000 / (6 * h.lasts);
            return warmth < 10 ? a + a / 2 : a;
        }
    }

    /** The asks by Java's own dispatch. */
    static class Any {
        final Boat boat;
        final List<Integer> trace;

        Any(Boat boat, List<Integer> trace) {
            this.boat = boat;
            this.trace = trace;
        }

        long size() {
            trace.add(10);
            return boat.water;
        }

        long mark() {
            trace.add(20);
            return boat.number;
        }
    }

    static final class Dry extends Any {
        Dry(Boat b, List<Integer> t) {
            super(b, t);
        }

        @Override
        long mark() {
            trace.add(23);
            return super.mark() - size();
        }
    }

    static class Lying extends Any {
        Lying(Boat b, List<Integer> t) {
            super(b, t);
        }

        @Override
        long size() {
            trace.add(11);
            return super.size() + mark();
        }

        @Override
        long mark() {
            trace.add(21);
            return super.mark() + boat.mast;
        }
    }

    static class Round extends Lying {
        Round(Boat b, List<Integer> t) {
            super(b, t);
        }

        @Override
        long size() {
            trace.add(12);
            return super.size() * 2;
        }
    }

    static final class Held extends Round {
        Held(Boat b, List<Integer> t) {
            super(b, t);
        }

        @Override
        long size() {
            trace.add(14);
            return super.size() + 1000;
        }

        @Override
        long mark() {
            trace.add(22);
            return super.mark() - 500;
        }
    }

    static final class Swamped extends Any {
        Swamped(Boat b, List<Integer> t) {
            super(b, t);
        }

        @Override
        long size() {
            trace.add(13);
            return 0 - super.size();
        }

        @Override
        long mark() {
            trace.add(24);
            return super.mark() + size();
        }
    }

    private static final Class<?>[] KINDS = {Any.class, Dry.class, Lying.class, Round.class, Held.class, Swamped.class};

    private final Number[][] rows = new Number[8][];
    private final int[] lanes = new int[8];
    private final StringBuilder tape = new StringBuilder();
    private Club club;
    private final Club[] images = new Club[2];
    private final List<Integer> trace = new ArrayList<>();
    private int fault;
    private int status;

    // ---- rows

    private long found(int n) {
        status = n;
        return Check.NOT - 10 - n;
    }

    private static boolean in(long v, long least, long most) {
        return least <= v && v <= most;
    }

    long row(int row, int lane, int n) {
        if (!in(row, 0, 7) || !in(lane, 0, 2) || n > 40) {
            return Check.BAD;
        }
        if (n < 0) {
            return found(4);
        }
        lanes[row] = lane;
        rows[row] = new Number[n];
        java.util.Arrays.fill(rows[row], 0);
        status = 0;
        return n;
    }

    long set(int row, int i, int v) {
        if (!in(row, 0, 7)) {
            return Check.BAD;
        }
        if (rows[row] == null) {
            return found(1);
        }
        if (!in(i, 0, rows[row].length - 1)) {
            return found(2);
        }
        int bits = 8 << lanes[row];
        rows[row][i] = BigInteger.valueOf(v).shiftLeft(64 - bits).longValue() >> 64 - bits;
        status = 0;
        return rows[row][i].longValue();
    }

    long copy(int a, int i, int b, int j, int n) {
        if (!in(a, 0, 7) || !in(b, 0, 7)) {
            return Check.BAD;
        }
        if (rows[a] == null || rows[b] == null) {
            return found(1);
        }
        if (lanes[a] != lanes[b]) {
            return found(5);
        }
        if (i < 0 || j < 0 || n < 0 || (long) i + n > rows[a].length || (long) j + n > rows[b].length) {
            return found(2);
        }
        Number[] ahead = rows[a].clone();
        for (int k = 0; k < n; k++) {
            rows[b][j + k] = ahead[i + k];
        }
        status = 0;
        return n;
    }

    long drop(int row) {
        if (!in(row, 0, 7)) {
            return Check.BAD;
        }
        if (rows[row] == null) {
            return found(1);
        }
        int had = rows[row].length;
        rows[row] = null;
        status = 0;
        return had;
    }

    // ---- clubs, ticks

    long feed(long w, int n) {
        if (!in(n, 1, 8)) {
            return Check.BAD;
        }
        if (tape.length() + n > 400) {
            return Check.FULL;
        }
        for (int i = n - 1; i >= 0; i--) {
            tape.append((char) (w >>> 8 * i & 255));
        }
        return tape.length();
    }

    private static final class Fault extends RuntimeException {
        private static final long serialVersionUID = 1;
        final int number;
        final int at;

        Fault(int number, int at) {
            this.number = number;
            this.at = at;
        }
    }

    private List<String> tokens;
    private List<Integer> starts;
    private int next;

    private void cut(String text) {
        tokens = new ArrayList<>();
        starts = new ArrayList<>();
        next = 0;
        java.util.regex.Matcher m = java.util.regex.Pattern.compile("[a-z]+|[0-9]+|[ \n]|(?s:.)").matcher(text);
        while (m.find()) {
            if (!m.group().equals(" ") && !m.group().equals("\n")) {
                tokens.add(m.group());
                starts.add(m.start());
            }
        }
        tokens.add("");
        starts.add(text.length());
    }

    private boolean see(String word) {
        return tokens.get(next).equals(word);
    }

    private int at() {
        return starts.get(next);
    }

    private void want(String word) {
        if (!see(word)) {
            throw new Fault(1, at());
        }
        next++;
    }

    private int number(int least, int most) {
        if (!tokens.get(next).matches("[0-9]{1,3}")) {
            throw new Fault(1, at());
        }
        int v = Integer.parseInt(tokens.get(next));
        if (!in(v, least, most)) {
            throw new Fault(2, at());
        }
        next++;
        return v;
    }

    private Club text(String text) {
        cut(text);
        Club c = new Club();
        want("sea");
        c.warmth = number(0, 30);
        c.wind = number(0, 40);
        if (see("mud")) {
            c.mud = true;
            next++;
        }
        want(";");
        do {
            int at = at();
            want("boat");
            if (c.boats.size() == 6) {
                throw new Fault(3, at);
            }
            Boat b = new Boat();
            b.number = c.boats.size();
            b.beam = number(1, 30);
            b.sail = number(1, 30);
            b.air = number(0, 9);
            b.floats = number(0, 20);
            want(";");
            c.boats.add(b);
        } while (see("boat"));
        while (!see("")) {
            int at = at();
            want("hand");
            if (c.hands.size() == 12) {
                throw new Fault(3, at);
            }
            at = at();
            Hand h = new Hand();
            h.number = c.hands.size();
            h.boat = number(0, c.boats.size() - 1);
            if (c.boats.get(h.boat).crew.size() == 4) {
                throw new Fault(3, at);
            }
            h.weight = number(20, 150);
            h.lasts = number(1, 60);
            want(";");
            c.hands.add(h);
            c.boats.get(h.boat).crew.add(h);
        }
        return c;
    }

    long club() {
        String text = tape.toString();
        tape.setLength(0);
        try {
            club = text(text);
            return club.boats.size();
        } catch (Fault f) {
            fault = f.number;
            return Check.NOT - 100 - f.at;
        }
    }

    int fault() {
        return fault;
    }

    private Boat boatAt(int i) {
        return club == null || !in(i, 0, club.boats.size() - 1) ? null : club.boats.get(i);
    }

    private Hand handAt(int i) {
        return club == null || !in(i, 0, club.hands.size() - 1) ? null : club.hands.get(i);
    }

    long place(int hand, int place) {
        Hand h = handAt(hand);
        if (h == null || !in(place, 0, 3)) {
            return Check.BAD;
        }
        if (!h.can() || place == 0 && !club.boats.get(h.boat).upright()) {
            return Check.STATE;
        }
        h.place = place;
        return 1;
    }

    long tip(int boat) {
        Boat b = boatAt(boat);
        if (b == null) {
            return Check.BAD;
        }
        if (!b.upright()) {
            return Check.STATE;
        }
        b.over();
        return 1;
    }

    long go(int n, int seed) {
        if (club == null) {
            return Check.STATE;
        }
        if (!in(n, 1, 60) || !in(seed, 1, 999999)) {
            return Check.BAD;
        }
        club.x = seed;
        for (int i = 0; i < n; i++) {
            for (Boat b : club.boats) {
                club.tick(b, true);
            }
            club.ticks++;
        }
        return club.ticks;
    }

    long boat(int boat, int what) {
        Boat b = boatAt(boat);
        if (b == null || !in(what, 0, 6)) {
            return Check.BAD;
        }
        long[] all = {b.how.ordinal(), b.mast, b.water, club.need(b), b.lever(), b.weightIn(), b.sided};
        return all[what];
    }

    long hand(int hand, int what) {
        Hand h = handAt(hand);
        if (h == null || !in(what, 0, 3)) {
            return Check.BAD;
        }
        long[] all = {h.boat, h.weight, h.place, h.grip};
        return all[what];
    }

    // ---- foretold

    long rights(int boat, int m, int bow, int i) {
        Boat b = boatAt(boat);
        if (b == null || !in(m, 0, 100) || i < -1) {
            return Check.BAD;
        }
        if (bow != -1 && (handAt(bow) == null || handAt(bow).boat != boat)) {
            return Check.BAD;
        }
        if (bow != -1 && !handAt(bow).can()) {
            return Check.STATE;
        }
        List<Integer> sets = new ArrayList<>();
        for (int set = 0; set < 4096; set++) {
            Club c = club.twin();
            Boat t = c.boats.get(boat);
            t.how = How.SIDED;
            t.mast = m;
            boolean fits = true;
            for (Hand h : c.hands) {
                boolean in = (set >> h.number & 1) == 1;
                fits &= !in || h.boat == boat && h.number != bow && h.can();
                h.place = in ? 2 : h.number == bow ? 3 : 1;
            }
            if (fits && set < 1 << c.hands.size() && t.lever() >= c.need(t)) {
                sets.add(set);
            }
        }
        return i == -1 ? sets.size() : i < sets.size() ? sets.get(i) : Check.NONE;
    }

    long lightest(int boat) {
        Boat b = boatAt(boat);
        if (b == null) {
            return Check.BAD;
        }
        for (int w = 20; w <= 150; w++) {
            if (w * b.beam / 10 >= 10 * b.sail + 2 * club.wind) {
                return w;
            }
        }
        return Check.NONE;
    }

    long round(int boat) {
        Boat b = boatAt(boat);
        if (b == null) {
            return Check.BAD;
        }
        int mast = 0;
        for (int t = 1; t <= 100; t++) {
            mast += 20 - b.floats;
            if (mast >= 100) {
                return t;
            }
        }
        return Check.NONE;
    }

    long quickest(int boat, int what) {
        Boat b = boatAt(boat);
        if (b == null || !in(what, 0, 1)) {
            return Check.BAD;
        }
        if (b.how != How.SIDED) {
            return Check.STATE;
        }
        List<Integer> able = new ArrayList<>();
        for (int i = 0; i < b.crew.size(); i++) {
            if (b.crew.get(i).can()) {
                able.add(i);
            }
        }
        if (able.size() < 2) {
            return Check.NONE;
        }
        long best = Check.NONE;
        long places = Check.NONE;
        for (int row = 0; row < 4096; row++) {
            int[] told = {row >> 8, row >> 4 & 15, row & 15};
            Boat t = b.twin();
            for (int tick = 1; tick <= 20 && (best == Check.NONE || tick < best); tick++) {
                int now = told[Math.min(tick, 3) - 1];
                go(t, t.crew.get(able.get(0)), now / 4);
                go(t, t.crew.get(able.get(1)), now % 4);
                club.tick(t, false);
                if (t.how == How.UP) {
                    best = tick;
                    places = told[0];
                    break;
                }
            }
        }
        return what == 0 ? best : places;
    }

    private static void go(Boat b, Hand h, int place) {
        if (h.can()) {
            h.place = place == 0 && !b.upright() ? 1 : place;
        }
    }

    long tries(int hand, int t) {
        Hand h = handAt(hand);
        if (h == null || !in(t, 1, 60)) {
            return Check.BAD;
        }
        int begun = 0;
        for (int grip = h.grip; grip > 0; grip -= t * club.cold(h)) {
            begun++;
        }
        return begun;
    }

    long airs(int n) {
        if (!in(n, 1, 4)) {
            return Check.BAD;
        }
        int[] bails = new int[10];
        for (int a = 0; a < 10; a++) {
            bails[a] = (int) Math.ceil((70.0 - 6 * a) / (5 * n + a));
        }
        int best = 0;
        for (int a = 0; a < 10; a++) {
            boolean beaten = false;
            for (int o = 0; o < 10; o++) {
                beaten |= o <= a && bails[o] <= bails[a] && (o < a || bails[o] < bails[a]);
            }
            best += beaten ? 0 : 1 << a;
        }
        return best;
    }

    private long least;
    private List<Integer> leastOrder;

    private void orders(List<Integer> begun, int[] odds, int r, int m) {
        if (begun.size() == odds.length) {
            int[] free = new int[r];
            long sum = 0;
            for (int b : begun) {
                int who = 0;
                for (int k = 1; k < r; k++) {
                    who = free[k] < free[who] ? k : who;
                }
                free[who] += m;
                sum += (long) odds[b] * free[who];
            }
            if (leastOrder == null || sum < least) {
                least = sum;
                leastOrder = new ArrayList<>(begun);
            }
            return;
        }
        for (int b = 0; b < odds.length; b++) {
            if (!begun.contains(b)) {
                begun.add(b);
                orders(begun, odds, r, m);
                begun.remove(begun.size() - 1);
            }
        }
    }

    long first(int row, int r, int m, int place) {
        if (club == null) {
            return Check.STATE;
        }
        if (!in(row, 0, 7) || !in(r, 1, 2) || !in(m, 1, 20) || place < -1) {
            return Check.BAD;
        }
        if (rows[row] == null) {
            return found(1);
        }
        if (rows[row].length < club.boats.size()) {
            return found(2);
        }
        int[] odds = new int[club.boats.size()];
        for (int b = 0; b < odds.length; b++) {
            odds[b] = rows[row][b].intValue();
            if (!in(odds[b], 0, 99)) {
                return Check.BAD;
            }
        }
        leastOrder = null;
        orders(new ArrayList<>(), odds, r, m);
        status = 0;
        return place == -1 ? least : place < odds.length ? leastOrder.get(place) : Check.NONE;
    }

    private static BigInteger above(int n, int p, int r) {
        BigInteger sum = BigInteger.ZERO;
        for (int out = 0; out < 1 << n; out++) {
            if (Integer.bitCount(out) > r) {
                BigInteger way = BigInteger.ONE;
                for (int b = 0; b < n; b++) {
                    way = way.multiply(BigInteger.valueOf((out >> b & 1) == 1 ? p : 100 - p));
                }
                sum = sum.add(way);
            }
        }
        return sum;
    }

    long over(int n, int p, int r, int what) {
        if (!in(n, 1, 7) || !in(p, 0, 100) || !in(r, 0, 7) || !in(what, 0, 1)) {
            return Check.BAD;
        }
        BigInteger above = above(n, p, r);
        BigInteger below = BigInteger.valueOf(100).pow(n);
        BigInteger g = above.gcd(below);
        return (what == 0 ? above : below).divide(g).longValueExact();
    }

    long staysIn(int n, int r, int q) {
        if (!in(n, 1, 7) || !in(r, 0, 7) || !in(q, 0, 999)) {
            return Check.BAD;
        }
        for (int w = 0; w <= 40; w++) {
            BigInteger a = above(n, w, r).multiply(BigInteger.valueOf(1000));
            if (a.compareTo(BigInteger.valueOf(q).multiply(BigInteger.valueOf(100).pow(n))) > 0) {
                return w;
            }
        }
        return Check.NONE;
    }

    long heads(int row, int what) {
        if (club == null) {
            return Check.STATE;
        }
        if (!in(row, 0, 7) || !in(what, 0, 2)) {
            return Check.BAD;
        }
        if (rows[row] == null) {
            return found(1);
        }
        int n = club.boats.size();
        if (rows[row].length < 2 * n) {
            return found(2);
        }
        long lack = 0;
        long more = 0;
        boolean same = true;
        boolean good = true;
        for (int b = 0; b < n; b++) {
            int out = rows[row][2 * b].intValue();
            int in = rows[row][2 * b + 1].intValue();
            good &= in(out, 0, 9) && in(in, 0, 9);
            lack += in < out ? 1 << b : 0;
            more += in > out ? in - out : 0;
            same &= in == out;
        }
        if (!good) {
            return Check.BAD;
        }
        status = 0;
        return what == 0 ? lack : what == 1 ? more : same ? 1 : 0;
    }

    long image(int k) {
        if (!in(k, 0, 1)) {
            return Check.BAD;
        }
        if (club == null) {
            return Check.STATE;
        }
        images[k] = club.twin();
        return 1;
    }

    long restore(int k) {
        if (!in(k, 0, 1)) {
            return Check.BAD;
        }
        if (images[k] == null) {
            return Check.STATE;
        }
        club = images[k].twin();
        return 1;
    }

    // ---- asked

    private static Any typed(Boat b, List<Integer> t) {
        switch (b.how) {
            case UP: return new Dry(b, t);
            case SIDED: return new Lying(b, t);
            case TURNED: return new Round(b, t);
            case STUCK: return new Held(b, t);
            default: return new Swamped(b, t);
        }
    }

    long kind(int boat) {
        Boat b = boatAt(boat);
        if (b == null) {
            return Check.BAD;
        }
        Class<?> c = typed(b, null).getClass();
        return java.util.Arrays.asList(KINDS).indexOf(c);
    }

    long as(int boat, int kind) {
        Boat b = boatAt(boat);
        if (b == null || !in(kind, 0, 5)) {
            return Check.BAD;
        }
        if (!KINDS[kind].isInstance(typed(b, null))) {
            return found(3);
        }
        status = 0;
        return boat;
    }

    long ask(int boat, int what) {
        Boat b = boatAt(boat);
        if (b == null || !in(what, 0, 1)) {
            return Check.BAD;
        }
        trace.clear();
        Any any = typed(b, trace);
        return what == 0 ? any.size() : any.mark();
    }

    int trace(int i) {
        return in(i, 0, Math.min(16, trace.size()) - 1) ? trace.get(i) : (int) Check.NONE;
    }

    long count(int what) {
        if (!in(what, 0, 7)) {
            return Check.BAD;
        }
        if (what == 0) {
            return java.util.Arrays.stream(rows).filter(r -> r != null).count();
        }
        if (what == 4) {
            return tape.length();
        }
        if (club == null) {
            return 0;
        }
        long[] all = {0, club.boats.size(), club.hands.size(), club.ticks, 0,
            club.hands.stream().filter(h -> !h.can()).count(),
            club.boats.stream().filter(b -> !b.upright()).count(), club.wind};
        return all[what];
    }

    int status() {
        return status;
    }
}
