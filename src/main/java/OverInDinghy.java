import java.util.Arrays;

/** Dinghies that go over, and the hands who bring them up again: DOC.md has what each call promises. */
public final class OverInDinghy {
    public static final int NONE = -1000000;
    public static final long NOT = -9000000000000000000L;

    private static final long BAD = NOT - 1;
    private static final long STATE = NOT - 2;
    private static final long FULL = NOT - 3;

    private static final int NULL = 1;
    private static final int PLACE = 2;
    private static final int KIND = 3;
    private static final int SIZE = 4;
    private static final int STORE = 5;

    private static final int MOST_BOATS = 6;
    private static final int MOST_HANDS = 12;
    private static final int MOST_CREW = 4;
    private static final int MOST_GRIP = 1000;

    private static final int UP = 0;
    private static final int SIDED = 1;
    private static final int TURNED = 2;
    private static final int STUCK = 3;
    private static final int SWAMPED = 4;

    private static final int IN_HER = 0;
    private static final int BESIDE = 1;
    private static final int BOARD = 2;
    private static final int BOW = 3;

    private final Rows rows = new Rows();
    private final Reader reader = new Reader();
    private final Club now = new Club();
    private final Club draft = new Club();
    private final Club imageA = new Club();
    private final Club imageB = new Club();
    private final Draws draws = new Draws();
    private final Search search = new Search();
    private final Rescue rescue = new Rescue();
    private final Asks asks = new Asks();
    private int lastFault;
    private int lastFinding;

    public OverInDinghy() {
    }

    // ---- rows

    public long row(int row, int lane, int n) {
        if (!Rows.isRow(row) || lane < 0 || lane > Rows.INTS || n > Rows.MOST_ITEMS) {
            return BAD;
        }
        if (n < 0) {
            return found(SIZE);
        }
        rows.make(row, lane, n);
        return fine(n);
    }

    public long set(int row, int i, int v) {
        if (!Rows.isRow(row)) {
            return BAD;
        }
        if (rows.isMissing(row)) {
            return found(NULL);
        }
        if (i < 0 || i >= rows.size[row]) {
            return found(PLACE);
        }
        return fine(rows.put(row, i, v));
    }

    public long copy(int a, int i, int b, int j, int n) {
        if (!Rows.isRow(a) || !Rows.isRow(b)) {
            return BAD;
        }
        if (rows.isMissing(a) || rows.isMissing(b)) {
            return found(NULL);
        }
        if (rows.lane[a] != rows.lane[b]) {
            return found(STORE);
        }
        if (!rows.holds(a, i, n) || !rows.holds(b, j, n)) {
            return found(PLACE);
        }
        rows.move(a, i, b, j, n);
        return fine(n);
    }

    public long drop(int row) {
        if (!Rows.isRow(row)) {
            return BAD;
        }
        if (rows.isMissing(row)) {
            return found(NULL);
        }
        int had = rows.size[row];
        rows.size[row] = Rows.MISSING;
        return fine(had);
    }

    // ---- clubs, ticks

    public long feed(long w, int n) {
        if (n < 1 || n > 8) {
            return BAD;
        }
        if (!reader.hasRoom(n)) {
            return FULL;
        }
        reader.append(w, n);
        return reader.length;
    }

    public long club() {
        boolean good = reader.read(draft);
        reader.length = 0;
        if (!good) {
            lastFault = reader.wrong;
            return NOT - 100 - reader.wrongAt;
        }
        now.become(draft);
        return now.boats;
    }

    public int fault() {
        return lastFault;
    }

    public long place(int hand, int place) {
        if (!now.isHand(hand) || place < IN_HER || place > BOW) {
            return BAD;
        }
        if (!now.can(hand) || place == IN_HER && now.isOver(now.boatOf[hand])) {
            return STATE;
        }
        now.spot[hand] = place;
        return 1;
    }

    public long tip(int boat) {
        if (!now.isBoat(boat)) {
            return BAD;
        }
        if (now.isOver(boat)) {
            return STATE;
        }
        now.capsize(boat);
        return 1;
    }

    public long go(int n, int seed) {
        if (now.isNone()) {
            return STATE;
        }
        if (n < 1 || n > 60 || seed < 1 || seed > 999999) {
            return BAD;
        }
        draws.begin(seed);
        for (int i = 0; i < n; i++) {
            now.tick(draws);
        }
        return now.ticks;
    }

    public long boat(int boat, int what) {
        if (!now.isBoat(boat)) {
            return BAD;
        }
        switch (what) {
            case 0: return now.how[boat];
            case 1: return now.mast[boat];
            case 2: return now.water[boat];
            case 3: return now.needNow(boat);
            case 4: return now.leverNow(boat);
            case 5: return now.weightIn(boat);
            case 6: return now.sided[boat];
            default: return BAD;
        }
    }

    public long hand(int hand, int what) {
        if (!now.isHand(hand)) {
            return BAD;
        }
        switch (what) {
            case 0: return now.boatOf[hand];
            case 1: return now.weight[hand];
            case 2: return now.spot[hand];
            case 3: return now.grip[hand];
            default: return BAD;
        }
    }

    // ---- foretold

    public long rights(int boat, int m, int bow, int i) {
        if (!now.isBoat(boat) || m < 0 || m > 100 || i < -1) {
            return BAD;
        }
        if (bow != -1 && !now.isHandOf(bow, boat)) {
            return BAD;
        }
        if (bow != -1 && !now.can(bow)) {
            return STATE;
        }
        return Foretold.enough(now, boat, m, bow, i);
    }

    public long lightest(int boat) {
        return now.isBoat(boat) ? Foretold.leastWeight(now, boat) : BAD;
    }

    public long round(int boat) {
        return now.isBoat(boat) ? Foretold.ticksTillRound(now.floats[boat]) : BAD;
    }

    public long quickest(int boat, int what) {
        if (!now.isBoat(boat) || what < 0 || what > 1) {
            return BAD;
        }
        if (now.how[boat] != SIDED) {
            return STATE;
        }
        search.look(now, boat);
        return what == 0 ? search.ticks() : search.places;
    }

    public long tries(int hand, int t) {
        if (!now.isHand(hand) || t < 1 || t > 60) {
            return BAD;
        }
        return Foretold.upTo(now.grip[hand], now.chillOf(hand) * t);
    }

    public long airs(int n) {
        return n < 1 || n > MOST_CREW ? BAD : Foretold.bestAirs(n);
    }

    public long first(int row, int r, int m, int place) {
        if (now.isNone()) {
            return STATE;
        }
        if (!Rows.isRow(row) || r < 1 || r > 2 || m < 1 || m > 20 || place < -1) {
            return BAD;
        }
        if (rows.isMissing(row)) {
            return found(NULL);
        }
        if (rows.size[row] < now.boats) {
            return found(PLACE);
        }
        if (!rows.within(row, now.boats, 99)) {
            return BAD;
        }
        rescue.plan(rows, row, now.boats, r);
        if (place == -1) {
            return fine(rescue.waited(r, m));
        }
        return fine(place < now.boats ? rescue.order[place] : NONE);
    }

    public long over(int n, int p, int r, int what) {
        if (!Odds.areBoats(n, r) || p < 0 || p > 100 || what < 0 || what > 1) {
            return BAD;
        }
        long above = Odds.above(n, p, r);
        long below = Odds.power(100, n);
        long shared = Odds.divisor(above, below);
        if (shared < 1) {
            return BAD;
        }
        return what == 0 ? above / shared : below / shared;
    }

    public long staysIn(int n, int r, int q) {
        if (!Odds.areBoats(n, r) || q < 0 || q > 999) {
            return BAD;
        }
        for (int w = 0; w <= 40; w++) {
            if (Odds.above(n, w, r) * 1000 > q * Odds.power(100, n)) {
                return w;
            }
        }
        return NONE;
    }

    public long heads(int row, int what) {
        if (now.isNone()) {
            return STATE;
        }
        if (!Rows.isRow(row) || what < 0 || what > 2) {
            return BAD;
        }
        if (rows.isMissing(row)) {
            return found(NULL);
        }
        if (rows.size[row] < 2 * now.boats) {
            return found(PLACE);
        }
        if (!rows.within(row, 2 * now.boats, 9)) {
            return BAD;
        }
        return fine(Foretold.balance(rows, row, now.boats, what));
    }

    public long image(int k) {
        if (k < 0 || k > 1) {
            return BAD;
        }
        if (now.isNone()) {
            return STATE;
        }
        imageOf(k).become(now);
        return 1;
    }

    public long restore(int k) {
        if (k < 0 || k > 1) {
            return BAD;
        }
        if (imageOf(k).isNone()) {
            return STATE;
        }
        now.become(imageOf(k));
        return 1;
    }

    // ---- asked

    public long kind(int boat) {
        return now.isBoat(boat) ? Asks.kindOf(now.how[boat]) : BAD;
    }

    public long as(int boat, int kind) {
        if (!now.isBoat(boat) || !Asks.isKind(kind)) {
            return BAD;
        }
        return Asks.is(Asks.kindOf(now.how[boat]), kind) ? fine(boat) : found(KIND);
    }

    public long ask(int boat, int what) {
        if (!now.isBoat(boat) || what < Asks.ASK_SIZE || what > Asks.ASK_MARK) {
            return BAD;
        }
        return asks.answer(now, boat, what);
    }

    public int trace(int i) {
        return i < 0 || i >= asks.length ? NONE : asks.begun[i];
    }

    public long count(int what) {
        switch (what) {
            case 0: return rows.present();
            case 1: return now.boats;
            case 2: return now.hands;
            case 3: return now.ticks;
            case 4: return reader.length;
            case 5: return now.handsWhoCannot();
            case 6: return now.boatsOver();
            case 7: return now.wind;
            default: return BAD;
        }
    }

    public int status() {
        return lastFinding;
    }

    private long found(int finding) {
        lastFinding = finding;
        return NOT - 10 - finding;
    }

    private long fine(long answer) {
        lastFinding = 0;
        return answer;
    }

    private Club imageOf(int k) {
        return k == 0 ? imageA : imageB;
    }

    /** The eight ROWS, each in its own stretch of one array, so that no call has to make one. */
    private static final class Rows {
        static final int MOST_ROWS = 8;
        static final int MOST_ITEMS = 40;
        static final int BYTES = 0;
        static final int SHORTS = 1;
        static final int INTS = 2;
        static final int MISSING = -1;

        final int[] lane = new int[MOST_ROWS];
        final int[] size = new int[MOST_ROWS];
        final int[] items = new int[MOST_ROWS * MOST_ITEMS];

        Rows() {
            Arrays.fill(size, MISSING);
        }

        static boolean isRow(int row) {
            return row >= 0 && row < MOST_ROWS;
        }

        boolean isMissing(int row) {
            return size[row] == MISSING;
        }

        void make(int row, int newLane, int n) {
            lane[row] = newLane;
            size[row] = n;
            for (int i = 0; i < n; i++) {
                items[row * MOST_ITEMS + i] = 0;
            }
        }

        int put(int row, int i, int v) {
            int kept = v;
            if (lane[row] == BYTES) {
                kept = (byte) v;
            } else if (lane[row] == SHORTS) {
                kept = (short) v;
            }
            items[row * MOST_ITEMS + i] = kept;
            return kept;
        }

        int item(int row, int i) {
            return items[row * MOST_ITEMS + i];
        }

        boolean holds(int row, int from, int n) {
            // the sum in long: two great ints would wrap to below 0
            return from >= 0 && n >= 0 && (long) from + n <= size[row];
        }

        void move(int a, int i, int b, int j, int n) {
            System.arraycopy(items, a * MOST_ITEMS + i, items, b * MOST_ITEMS + j, n);
        }

        boolean within(int row, int n, int most) {
            for (int i = 0; i < n; i++) {
                if (item(row, i) < 0 || item(row, i) > most) {
                    return false;
                }
            }
            return true;
        }

        int present() {
            int there = 0;
            for (int row = 0; row < MOST_ROWS; row++) {
                there += isMissing(row) ? 0 : 1;
            }
            return there;
        }
    }

    /** THE TAPE, and how a text on it becomes a CLUB or a FAULT. */
    private static final class Reader {
        static final int MOST_BYTES = 400;
        static final int MOST_FIGURES = 3;
        static final int END = 0;
        static final int NAME = 1;
        static final int NUMBER = 2;
        static final int SIGN = 3;
        static final int NO_TOKEN = 4;

        final byte[] tape = new byte[MOST_BYTES];
        int length;
        int next;
        int start;
        int token;
        int value;
        int taken;
        int wrong;
        int wrongAt;

        boolean hasRoom(int n) {
            return length + n <= MOST_BYTES;
        }

        void append(long w, int n) {
            for (int i = n - 1; i >= 0; i--) {
                tape[length] = (byte) (w >> (8 * i));
                length++;
            }
        }

        boolean read(Club into) {
            next = 0;
            into.empty();
            step();
            if (!readSea(into)) {
                return false;
            }
            for (int i = 0; i <= MOST_BOATS && (i == 0 || isWord("boat")); i++) {
                if (!readBoat(into)) {
                    return false;
                }
            }
            // one round more than there is room for: that one finds the fault
            for (int i = 0; i <= MOST_HANDS && token != END; i++) {
                if (!readHand(into)) {
                    return false;
                }
            }
            return true;
        }

        private boolean readSea(Club into) {
            if (!takeWord("sea", true) || !takeNumber(0, 30)) {
                return false;
            }
            into.warmth = taken;
            if (!takeNumber(0, 40)) {
                return false;
            }
            into.wind = taken;
            if (isWord("mud")) {
                into.mud = true;
                step();
            }
            return takeSign();
        }

        private boolean readBoat(Club into) {
            if (!takeWord("boat", into.boats < MOST_BOATS) || !takeNumber(1, 30)) {
                return false;
            }
            int boat = into.boats;
            into.beam[boat] = taken;
            if (!takeNumber(1, 30)) {
                return false;
            }
            into.sail[boat] = taken;
            if (!takeNumber(0, 9)) {
                return false;
            }
            into.air[boat] = taken;
            if (!takeNumber(0, 20)) {
                return false;
            }
            into.floats[boat] = taken;
            into.boats++;
            return takeSign();
        }

        private boolean readHand(Club into) {
            if (!takeWord("hand", into.hands < MOST_HANDS)) {
                return false;
            }
            int boatAt = start;
            if (!takeNumber(0, into.boats - 1)) {
                return false;
            }
            int boat = taken;
            if (into.crewOf(boat) >= MOST_CREW) {
                return refuse(3, boatAt);
            }
            int hand = into.hands;
            into.boatOf[hand] = boat;
            if (!takeNumber(20, 150)) {
                return false;
            }
            into.weight[hand] = taken;
            if (!takeNumber(1, 60)) {
                return false;
            }
            into.lasts[hand] = taken;
            into.grip[hand] = MOST_GRIP;
            into.hands++;
            return takeSign();
        }

        private boolean takeWord(String word, boolean hasRoom) {
            if (!isWord(word)) {
                return refuse(1, start);
            }
            if (!hasRoom) {
                return refuse(3, start);
            }
            step();
            return true;
        }

        private boolean takeNumber(int least, int most) {
            if (token != NUMBER) {
                return refuse(1, start);
            }
            if (value < least || value > most) {
                return refuse(2, start);
            }
            taken = value;
            step();
            return true;
        }

        private boolean takeSign() {
            if (token != SIGN) {
                return refuse(1, start);
            }
            step();
            return true;
        }

        private boolean refuse(int fault, int at) {
            wrong = fault;
            wrongAt = at;
            return false;
        }

        private boolean isWord(String word) {
            if (token != NAME || next - start != word.length()) {
                return false;
            }
            for (int i = 0; i < word.length(); i++) {
                if (tape[start + i] != word.charAt(i)) {
                    return false;
                }
            }
            return true;
        }

        private void step() {
            while (next < length && (tape[next] == 32 || tape[next] == 10)) {
                next++;
            }
            start = next;
            if (start >= length) {
                token = END;
            } else if (isLetter(tape[start])) {
                stepName();
            } else if (isFigure(tape[start])) {
                stepNumber();
            } else {
                token = tape[start] == ';' ? SIGN : NO_TOKEN;
                next++;
            }
        }

        private void stepName() {
            while (next < length && isLetter(tape[next])) {
                next++;
            }
            token = NAME;
        }

        private void stepNumber() {
            value = 0;
            while (next < length && isFigure(tape[next])) {
                value = value * 10 + tape[next] - '0';
                next++;
            }
            token = next - start > MOST_FIGURES ? NO_TOKEN : NUMBER;
        }

        private static boolean isLetter(byte b) {
            return b >= 'a' && b <= 'z';
        }

        private static boolean isFigure(byte b) {
            return b >= '0' && b <= '9';
        }
    }

    /** What the wind draws: X, or nothing at all while it is still. */
    private static final class Draws {
        boolean still = true;
        long x;

        void begin(int seed) {
            still = false;
            x = seed;
        }

        long draw(int by) {
            x = x * 16807 % 2147483647;
            return by < 1 ? 0 : x % by;
        }
    }

    /** A sea, its BOATS and their HANDS, and how they all are; none while it has no BOATS. */
    private static final class Club {
        int warmth;
        int wind;
        boolean mud;
        int ticks;
        int boats;
        int hands;

        final int[] beam = new int[MOST_BOATS];
        final int[] sail = new int[MOST_BOATS];
        final int[] air = new int[MOST_BOATS];
        final int[] floats = new int[MOST_BOATS];
        final int[] how = new int[MOST_BOATS];
        final int[] mast = new int[MOST_BOATS];
        final int[] water = new int[MOST_BOATS];
        final int[] sided = new int[MOST_BOATS];

        final int[] boatOf = new int[MOST_HANDS];
        final int[] weight = new int[MOST_HANDS];
        final int[] lasts = new int[MOST_HANDS];
        final int[] spot = new int[MOST_HANDS];
        final int[] grip = new int[MOST_HANDS];

        void empty() {
            mud = false;
            ticks = 0;
            boats = 0;
            hands = 0;
            Arrays.fill(how, UP);
            Arrays.fill(mast, 0);
            Arrays.fill(water, 0);
            Arrays.fill(sided, 0);
            Arrays.fill(spot, IN_HER);
        }

        void become(Club other) {
            warmth = other.warmth;
            wind = other.wind;
            mud = other.mud;
            ticks = other.ticks;
            boats = other.boats;
            hands = other.hands;
            System.arraycopy(other.beam, 0, beam, 0, MOST_BOATS);
            System.arraycopy(other.sail, 0, sail, 0, MOST_BOATS);
            System.arraycopy(other.air, 0, air, 0, MOST_BOATS);
            System.arraycopy(other.floats, 0, floats, 0, MOST_BOATS);
            System.arraycopy(other.how, 0, how, 0, MOST_BOATS);
            System.arraycopy(other.mast, 0, mast, 0, MOST_BOATS);
            System.arraycopy(other.water, 0, water, 0, MOST_BOATS);
            System.arraycopy(other.sided, 0, sided, 0, MOST_BOATS);
            System.arraycopy(other.boatOf, 0, boatOf, 0, MOST_HANDS);
            System.arraycopy(other.weight, 0, weight, 0, MOST_HANDS);
            System.arraycopy(other.lasts, 0, lasts, 0, MOST_HANDS);
            System.arraycopy(other.spot, 0, spot, 0, MOST_HANDS);
            System.arraycopy(other.grip, 0, grip, 0, MOST_HANDS);
        }

        boolean isNone() {
            return boats == 0;
        }

        boolean isBoat(int b) {
            return b >= 0 && b < boats;
        }

        boolean isHand(int h) {
            return h >= 0 && h < hands;
        }

        boolean isHandOf(int h, int b) {
            return isHand(h) && boatOf[h] == b;
        }

        boolean can(int h) {
            return grip[h] > 0;
        }

        boolean isOver(int b) {
            return how[b] != UP && how[b] != SWAMPED;
        }

        int crewOf(int b) {
            int crew = 0;
            for (int h = 0; h < hands; h++) {
                crew += boatOf[h] == b ? 1 : 0;
            }
            return crew;
        }

        int weightIn(int b) {
            int sum = 0;
            for (int h = 0; h < hands; h++) {
                sum += boatOf[h] == b && spot[h] == IN_HER ? weight[h] : 0;
            }
            return sum;
        }

        /** How many who can are at a place of a boat. */
        int ableAt(int b, int place) {
            int able = 0;
            for (int h = 0; h < hands; h++) {
                able += boatOf[h] == b && spot[h] == place && grip[h] > 0 ? 1 : 0;
            }
            return able;
        }

        int ableWeightOnBoard(int b) {
            int sum = 0;
            for (int h = 0; h < hands; h++) {
                sum += boatOf[h] == b && spot[h] == BOARD && grip[h] > 0 ? weight[h] : 0;
            }
            return sum;
        }

        int need(int b, int mastFull, boolean bowHeld) {
            return 10 * sail[b] + mastFull + (bowHeld ? 0 : 2 * wind);
        }

        int lever(int b, int weightOnBoard) {
            return weightOnBoard * beam[b] / 10;
        }

        int needNow(int b) {
            return need(b, mast[b], ableAt(b, BOW) > 0);
        }

        int leverNow(int b) {
            return lever(b, ableWeightOnBoard(b));
        }

        int handsWhoCannot() {
            int sum = 0;
            for (int h = 0; h < hands; h++) {
                sum += can(h) ? 0 : 1;
            }
            return sum;
        }

        int boatsOver() {
            int sum = 0;
            for (int b = 0; b < boats; b++) {
                sum += isOver(b) ? 1 : 0;
            }
            return sum;
        }

        void tick(Draws draws) {
            for (int b = 0; b < boats; b++) {
                tickBoat(b, draws);
            }
            ticks++;
        }

        void tickBoat(int b, Draws draws) {
            int need = needNow(b);
            int lever = leverNow(b);
            switch (how[b]) {
                case SIDED:
                    if (need <= lever) {
                        comeUp(b, draws);
                    } else {
                        fillMast(b);
                    }
                    break;
                case TURNED:
                    if (2 * need <= lever) {
                        how[b] = SIDED;
                        mast[b] = 50;
                        sided[b]++;
                    }
                    break;
                case STUCK:
                    how[b] = 3 * need <= lever ? TURNED : STUCK;
                    break;
                default:
                    rideOrBail(b, draws);
            }
            chill(b);
        }

        void capsize(int b) {
            how[b] = SIDED;
            mast[b] = 0;
            water[b] = 0;
            sided[b]++;
            sendAll(b, IN_HER, BESIDE);
        }

        private void rideOrBail(int b, Draws draws) {
            int steady = weightIn(b) + 5 * beam[b] - water[b];
            if (!draws.still && (wind + draws.draw(10)) * sail[b] > steady) {
                capsize(b);
            } else if (how[b] == SWAMPED) {
                water[b] = Math.max(0, water[b] - 5 * ableAt(b, IN_HER) - air[b]);
                how[b] = water[b] == 0 ? UP : SWAMPED;
            }
        }

        private void fillMast(int b) {
            mast[b] = Math.min(100, mast[b] + 20 - floats[b]);
            if (mast[b] == 100) {
                how[b] = mud ? STUCK : TURNED;
            }
        }

        private void comeUp(int b, Draws draws) {
            how[b] = SWAMPED;
            water[b] = 70 - 6 * air[b];
            mast[b] = 0;
            sendAll(b, BOARD, IN_HER);
            if (!draws.still && ableAt(b, BOW) == 0 && draws.draw(100) < 2 * wind) {
                capsize(b);
            }
        }

        private void sendAll(int b, int from, int to) {
            for (int h = 0; h < hands; h++) {
                if (boatOf[h] == b && spot[h] == from) {
                    spot[h] = to;
                }
            }
        }

        private void chill(int b) {
            for (int h = 0; h < hands; h++) {
                if (boatOf[h] == b && (spot[h] != IN_HER || how[b] == SWAMPED)) {
                    grip[h] = Math.max(0, grip[h] - chillOf(h));
                }
            }
        }

        /** What one TICK in the water takes of a hand's GRIP. */
        int chillOf(int h) {
            int slow = 6 * lasts[h];
            if (slow < 1) {
                return 0;
            }
            int cold = MOST_GRIP / slow;
            return warmth < 10 ? cold + cold / 2 : cold;
        }
    }

    /** What is foretold of a CLUB by counting alone. */
    private static final class Foretold {
        private static final int MOST_AIR = 9;

        /** How many sets are enough (i = -1), or the i-th of them. */
        static long enough(Club club, int boat, int mast, int bow, int i) {
            int need = club.need(boat, mast, bow != -1);
            int others = ableBits(club, boat, bow);
            int sets = 0;
            int set = 0;
            for (int n = 1; n < 1 << MOST_CREW; n++) {
                // the next greater set whose bits are all among the others; 0 behind the last
                set = (set - others) & others;
                if (set == 0) {
                    break;
                }
                if (club.lever(boat, weightOf(club, set)) >= need) {
                    if (sets == i) {
                        return set;
                    }
                    sets++;
                }
            }
            return i == -1 ? sets : NONE;
        }

        private static int ableBits(Club club, int boat, int bow) {
            int bits = 0;
            for (int h = 0; h < club.hands; h++) {
                if (club.boatOf[h] == boat && h != bow && club.can(h)) {
                    bits |= 1 << h;
                }
            }
            return bits;
        }

        private static int weightOf(Club club, int set) {
            int sum = 0;
            for (int h = 0; h < club.hands; h++) {
                sum += (set >> h & 1) == 1 ? club.weight[h] : 0;
            }
            return sum;
        }

        static int leastWeight(Club club, int boat) {
            int need = club.need(boat, 0, false);
            for (int weight = 20; weight <= 150; weight++) {
                if (club.lever(boat, weight) >= need) {
                    return weight;
                }
            }
            return NONE;
        }

        static int ticksTillRound(int floats) {
            return upTo(100, 20 - floats);
        }

        /** a by b, up to a whole number; NONE where b never gets there. */
        static int upTo(int a, int b) {
            return b < 1 ? NONE : (a + b - 1) / b;
        }

        static int bestAirs(int n) {
            int best = 0;
            for (int air = 0; air <= MOST_AIR; air++) {
                if (!isBeaten(air, n)) {
                    best |= 1 << air;
                }
            }
            return best;
        }

        private static boolean isBeaten(int air, int n) {
            // only less AIR can beat: as much or more blows off no less, and the same AIR is no other
            for (int less = 0; less < air; less++) {
                if (bails(less, n) <= bails(air, n)) {
                    return true;
                }
            }
            return false;
        }

        private static int bails(int air, int n) {
            return upTo(70 - 6 * air, 5 * n + air);
        }

        static int balance(Rows rows, int row, int boats, int what) {
            int lacking = 0;
            int more = 0;
            for (int b = 0; b < boats; b++) {
                int gain = rows.item(row, 2 * b + 1) - rows.item(row, 2 * b);
                if (gain < 0) {
                    lacking |= 1 << b;
                } else {
                    more += gain;
                }
            }
            if (what == 0) {
                return lacking;
            }
            if (what == 1) {
                return more;
            }
            return lacking == 0 && more == 0 ? 1 : 0;
        }
    }

    /** QUICKEST: all that a row may tell for the first TICK, tried on a copy of the CLUB. */
    private static final class Search {
        private static final int MOST_TICKS = 20;
        private static final int TOLD = 16;

        final Club trial = new Club();
        final Draws still = new Draws();
        int one;
        int two;
        int fewest;
        int places;

        void look(Club club, int boat) {
            fewest = MOST_TICKS + 1;
            places = NONE;
            one = nextAble(club, boat, 0);
            two = nextAble(club, boat, one + 1);
            if (two >= club.hands) {
                return;
            }
            for (int told = 0; told < TOLD; told++) {
                trial.become(club);
                tryFirst(boat, told);
            }
        }

        int ticks() {
            return fewest > MOST_TICKS ? NONE : fewest;
        }

        private static int nextAble(Club club, int boat, int from) {
            for (int h = from; h < club.hands; h++) {
                if (club.isHandOf(h, boat) && club.can(h)) {
                    return h;
                }
            }
            return club.hands;
        }

        /**
         * The rows that tell this first. Masts only fill and hands only get colder, so places that do not bring her up
         * in the first TICK win nothing by coming later than in a row that begins with them. Once she is up, nobody does
         * more, or gets less cold, than in her. So of these rows none is quicker than the first, which tells 0 from then on.
         */
        private void tryFirst(int boat, int told) {
            goOn(boat, told);
            for (int tick = 2; tick < fewest && trial.how[boat] == SWAMPED; tick++) {
                goOn(boat, 0);
                if (trial.how[boat] == UP) {
                    fewest = tick;
                    places = told;
                }
            }
        }

        private void goOn(int boat, int told) {
            send(one, boat, told / 4);
            send(two, boat, told % 4);
            trial.tickBoat(boat, still);
        }

        private void send(int hand, int boat, int place) {
            if (trial.can(hand)) {
                trial.spot[hand] = place == IN_HER && trial.isOver(boat) ? BESIDE : place;
            }
        }
    }

    /** FIRST: the order in which rescuers go to the BOATS. */
    private static final class Rescue {
        final int[] order = new int[MOST_BOATS];
        final int[] odds = new int[MOST_BOATS];
        int boats;

        void plan(Rows rows, int row, int n, int r) {
            boats = n;
            for (int b = 0; b < boats; b++) {
                odds[b] = rows.item(row, b);
                insert(b);
            }
            // two who are gone to at once wait as long in either order
            for (int i = 0; r == 2 && i + 1 < boats; i += 2) {
                sortPair(i);
            }
        }

        /** The greater odds wait less in every order that is least; of the same odds the first boat goes first. */
        private void insert(int b) {
            int at = b;
            while (at > 0 && odds[order[at - 1]] < odds[b]) {
                order[at] = order[at - 1];
                at--;
            }
            order[at] = b;
        }

        private void sortPair(int i) {
            if (order[i] > order[i + 1]) {
                int later = order[i];
                order[i] = order[i + 1];
                order[i + 1] = later;
            }
        }

        int waited(int r, int m) {
            int sum = 0;
            for (int i = 0; i < boats; i++) {
                int round = r == 2 ? i / 2 : i;
                sum += odds[order[i]] * m * (round + 1);
            }
            return sum;
        }
    }

    /** OVER: how likely more of n boats are over than there are rescuers, in parts of 100 to the n. */
    private static final class Odds {
        static boolean areBoats(int n, int r) {
            return n >= 1 && n <= 7 && r >= 0 && r <= 7;
        }

        static long above(int n, int p, int r) {
            long sum = 0;
            for (int k = r + 1; k <= n; k++) {
                sum += ways(n, k) * power(p, k) * power(100 - p, n - k);
            }
            return sum;
        }

        private static long ways(int n, int k) {
            long ways = 1;
            for (int i = 1; i <= k; i++) {
                ways = ways * (n - i + 1) / i;
            }
            return ways;
        }

        static long power(long base, int n) {
            long product = 1;
            for (int i = 0; i < n; i++) {
                product *= base;
            }
            return product;
        }

        static long divisor(long a, long b) {
            long greater = a;
            long less = b;
            // Euclid's rests halve in two steps: 200 are more than any long needs
            for (int i = 0; i < 200 && less != 0; i++) {
                long rest = greater % less;
                greater = less;
                less = rest;
            }
            return greater;
        }
    }

    /** KINDS, and the BODIES that answer for them. */
    private static final class Asks {
        static final int ASK_SIZE = 0;
        static final int ASK_MARK = 1;

        private static final int KINDS = 6;
        private static final int MOST_BEGUN = 16;
        private static final int MOST_DEPTH = 12;
        // by KINDS: what each one is, too; a BOAT is nothing else
        private static final int[] PARENT = {-1, 0, 0, 2, 3, 0};
        // by KINDS: the BODY told for it; 0: none is
        private static final int[] SIZE_BODY = {10, 0, 11, 12, 14, 13};
        private static final int[] MARK_BODY = {20, 23, 21, 0, 22, 24};

        final int[] begun = new int[MOST_BEGUN];
        int length;

        static int kindOf(int how) {
            return how + 1;
        }

        static boolean isKind(int kind) {
            return kind >= 0 && kind < KINDS;
        }

        static boolean is(int kind, int other) {
            int at = kind;
            for (int i = 0; i < KINDS && isKind(at); i++) {
                if (at == other) {
                    return true;
                }
                at = PARENT[at];
            }
            return false;
        }

        long answer(Club club, int boat, int what) {
            length = 0;
            return begin(this, bodyFor(kindOf(club.how[boat]), what), club, boat, 0);
        }

        private static int bodyFor(int kind, int what) {
            int at = kind;
            for (int i = 0; i < KINDS && isKind(at); i++) {
                int body = what == ASK_SIZE ? SIZE_BODY[at] : MARK_BODY[at];
                if (body != 0) {
                    return body;
                }
                at = PARENT[at];
            }
            return 0;
        }

        private static long begin(Asks asks, int body, Club club, int boat, int depth) {
            if (depth > MOST_DEPTH) {
                return 0;
            }
            asks.leave(body);
            int within = depth + 1;
            int kind = kindOf(club.how[boat]);
            switch (body) {
                case 10:
                    return club.water[boat];
                case 11:
                    return begin(asks, 10, club, boat, within)
                            + begin(asks, bodyFor(kind, ASK_MARK), club, boat, within);
                case 12:
                    return 2 * begin(asks, 11, club, boat, within);
                case 13:
                    return -begin(asks, 10, club, boat, within);
                case 14:
                    return begin(asks, 12, club, boat, within) + 1000;
                case 20:
                    return boat;
                case 21:
                    return begin(asks, 20, club, boat, within) + club.mast[boat];
                case 22:
                    return begin(asks, 21, club, boat, within) - 500;
                case 23:
                    return begin(asks, 20, club, boat, within)
                            - begin(asks, bodyFor(kind, ASK_SIZE), club, boat, within);
                case 24:
                    return begin(asks, 20, club, boat, within)
                            + begin(asks, bodyFor(kind, ASK_SIZE), club, boat, within);
                default:
                    return 0;
            }
        }

        private void leave(int body) {
            if (length < MOST_BEGUN) {
                begun[length] = body;
                length++;
            }
        }
    }
}
