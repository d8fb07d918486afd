/** Seats under an eclipse: a hill of yards sold by auction, and who sees how long past whose heads. */
public final class EclipseSeats {
    public static final int NONE = -1, BAD = -2, NO = -3, FULL = -4;

    private static final int YARDS = 8;
    private static final int MOST_BIDDERS = 5;
    private static final int MOST_NOTES = 6;
    private static final int NOTE_SIZE = 4;
    private static final int MOST_STEPS = 8;
    private static final int STEP_SIZE = 3 * MOST_BIDDERS;
    private static final int MOST_BYTES = 150;
    private static final int IMAGES = 2;
    private static final int COUNTS = 7;

    private static final int FIRST_TRACK = 3;
    private static final int FIRST_DARK = 240;
    private static final int MOST_DARK = 240;
    private static final int MOST_HEIGHT = 9;
    private static final int MOST_PURSE = 500;
    private static final int MOST_WORTH = 500;
    private static final int SECONDS_A_YARD = 9;
    private static final int MOST_CLOUDS = 10;
    private static final int MOST_SEED = 999999;
    private static final int MOST_ECLIPSES = 60;

    private static final int BAD_FIGURE = -10;
    private static final int BAD_BEST = -10000;
    private static final int NOT_SO_MANY = -5;
    private static final int FIRST_FAULT = -10;

    private final Hill now = new Hill();
    private final Hill draft = new Hill();
    // null: none was kept.
    private final Hill[] images = new Hill[IMAGES];
    private final Text text = new Text();
    private final Seating seating = new Seating();
    private final Duel duel = new Duel();
    private final Guess guess = new Guess();
    private int above = 0;
    private int below = 1;
    private int badCalls = 0;
    private int noCalls = 0;
    private int fullCalls = 0;

    public EclipseSeats() {
    }

    // ---- a hill

    public int hill(int track, int dark) {
        if (!isTrack(track, dark)) {
            return bad(BAD);
        }
        int were = now.bidders;
        now.begin(track, dark);
        return were;
    }

    public int track(int track, int dark) {
        if (!isTrack(track, dark)) {
            return bad(BAD);
        }
        now.track = track;
        now.dark = dark;
        now.steps = 0;
        return 1;
    }

    public int height(int y, int h) {
        if (!isYard(y) || !within(h, MOST_HEIGHT)) {
            return bad(BAD);
        }
        int was = now.heights[y];
        now.heights[y] = h;
        now.steps = 0;
        return was;
    }

    public int one(int kind, int purse) {
        if (!within(kind, Kinds.MANY - 1) || !within(purse, MOST_PURSE)) {
            return bad(BAD);
        }
        if (now.bidders >= MOST_BIDDERS) {
            return full();
        }
        now.steps = 0;
        return now.addBidder(kind, purse);
    }

    public int type(int c) {
        if (!within(c, 127)) {
            return bad(BAD);
        }
        if (text.length >= MOST_BYTES) {
            return full();
        }
        text.bytes[text.length] = (byte) c;
        text.length++;
        return text.length;
    }

    public int clear() {
        int had = text.length;
        text.length = 0;
        return had;
    }

    public int read() {
        int items = text.readInto(draft);
        if (items >= 0) {
            now.copyOf(draft);
        }
        return items;
    }

    // ---- yards

    public int sell(int y) {
        if (!isYard(y)) {
            return bad(BAD);
        }
        if (now.holder(y) != NONE) {
            return no();
        }
        int p = now.topBidder(y);
        if (p == NONE) {
            return no();
        }
        int price = now.price(y, p);
        now.remember();
        now.purses[p] -= price;
        now.paid[p] += price;
        now.seats[p] = y;
        return p;
    }

    public int leave(int p) {
        if (!isBidder(p)) {
            return bad(BAD);
        }
        int was = now.seats[p];
        if (was == NONE) {
            return no();
        }
        now.remember();
        now.seats[p] = NONE;
        return was;
    }

    public int moves(int p, int y) {
        if (!isBidder(p) || !isYard(y)) {
            return bad(BAD);
        }
        int was = now.seats[p];
        if (was == NONE || now.holder(y) != NONE) {
            return no();
        }
        now.remember();
        now.seats[p] = y;
        return was;
    }

    public int undo() {
        if (now.steps <= 0) {
            return no();
        }
        now.stepBack();
        return now.freeYards();
    }

    public int of(int p, int what) {
        if (!isBidder(p)) {
            return bad(BAD_FIGURE);
        }
        switch (what) {
            case 0: return now.kinds[p];
            case 1: return now.purses[p];
            case 2: return now.paid[p];
            case 3: return now.seats[p];
            case 4: return now.heads[p];
            default: return bad(BAD_FIGURE);
        }
    }

    public int yard(int y, int what) {
        if (!isYard(y)) {
            return bad(BAD_FIGURE);
        }
        switch (what) {
            case 0: return now.heights[y];
            case 1: return now.darkIn(y);
            case 2: return now.holder(y);
            default: return bad(BAD_FIGURE);
        }
    }

    // ---- who sees

    public int sees(int p, int y) {
        if (!isBidder(p) || (y != NONE && !isYard(y))) {
            return bad(BAD);
        }
        if (y == NONE) {
            return now.seenNow(p);
        }
        return now.isOpenTo(p, y) ? now.seenIn(p, y) : no();
    }

    public int gives(int p, int y) {
        if (!isBidder(p) || (y != NONE && !isYard(y))) {
            return bad(BAD);
        }
        int where = y == NONE ? now.seats[p] : y;
        if (where == NONE) {
            return 0;
        }
        return now.isOpenTo(p, where) ? now.bid(p, where) : no();
    }

    public int auction(int y, int what) {
        if (!isYard(y) || !within(what, 1)) {
            return bad(BAD);
        }
        if (now.holder(y) != NONE) {
            return no();
        }
        int p = now.topBidder(y);
        return p == NONE || what == 0 ? p : now.price(y, p);
    }

    public int hurt(int p, int y) {
        if (!isBidder(p) || !isYard(y)) {
            return bad(BAD);
        }
        return now.isOpenTo(p, y) ? now.harm(p, y) : no();
    }

    public int best(int p, int what) {
        if (!isBidder(p) || !within(what, 1)) {
            return bad(BAD_BEST);
        }
        int where = NONE;
        int most = BAD_BEST;
        for (int y = 0; y < YARDS; y++) {
            if (now.isOpenTo(p, y)) {
                int gain = now.worthIn(p, y) - now.harm(p, y);
                if (gain > most) {
                    most = gain;
                    where = y;
                }
            }
        }
        return what == 0 ? where : most;
    }

    public int all(int p) {
        if (p != NONE && !isBidder(p)) {
            return bad(BAD_FIGURE);
        }
        seating.work(now);
        return p == NONE ? seating.total() : seating.seatFor(p);
    }

    public int move(int what) {
        if (!within(what, 1)) {
            return bad(BAD);
        }
        int who = NONE;
        int most = NONE;
        for (int p = 0; p < now.bidders; p++) {
            if (now.seats[p] != NONE) {
                int harm = now.harm(p, now.seats[p]);
                if (harm > most) {
                    most = harm;
                    who = p;
                }
            }
        }
        return what == 0 ? who : most;
    }

    // ---- what one is

    public int note(int p, int s, int h, int w) {
        if (!isBidder(p) || !within(s, MOST_DARK) || !within(h, MOST_HEIGHT) || !within(w, MOST_WORTH)) {
            return bad(BAD);
        }
        if (now.noteCount >= MOST_NOTES) {
            return full();
        }
        int i = now.noteCount * NOTE_SIZE;
        now.notes[i] = p;
        now.notes[i + 1] = s;
        now.notes[i + 2] = h;
        now.notes[i + 3] = w;
        now.noteCount++;
        return now.noteCount;
    }

    public int forget() {
        int were = now.noteCount;
        now.noteCount = 0;
        return were;
    }

    public int is(int p) {
        return isBidder(p) ? guess.kindsOf(now, p) : bad(BAD);
    }

    public int offer(int p) {
        return isBidder(p) ? guess.nextFor(now, p) : bad(BAD);
    }

    public int two(int a, int b, int k) {
        if (!isBidder(a) || !isBidder(b) || a == b || k < NONE) {
            return bad(BAD_FIGURE);
        }
        duel.work(now, a, b);
        int found = 0;
        for (int i = 0; i < YARDS; i++) {
            for (int j = 0; j < YARDS; j++) {
                if (duel.rests(i, j)) {
                    if (found == k) {
                        return YARDS * i + j;
                    }
                    found++;
                }
            }
        }
        return k == NONE ? found : NOT_SO_MANY;
    }

    public int clouds(int c) {
        if (!within(c, MOST_CLOUDS)) {
            return bad(BAD);
        }
        // The yards' clouds are apart, but a mean of a sum asks only for each one's odds.
        int top = now.seenByAll() * (MOST_CLOUDS - c);
        int shared = commonDivisor(top, MOST_CLOUDS);
        above = top / shared;
        below = MOST_CLOUDS / shared;
        return 1;
    }

    public int eclipses(int seed, int n) {
        if (!within(seed, MOST_SEED) || !within(n, MOST_ECLIPSES)) {
            return bad(BAD);
        }
        // Whose head is in whose way is the same under each eclipse.
        int open = now.openSeats();
        long x = seed;
        int seen = 0;
        for (int i = 0; i < n; i++) {
            x = (x * 1103515245L + 12345L) % 2147483648L;
            int track = (int) (x / 65536L % 8L);
            int dark = (int) (x / 1048576L % 241L);
            seen += darkOver(open, track, dark);
        }
        return seen;
    }

    // ---- what there is

    public long part(int what) {
        switch (what) {
            case 0: return above;
            case 1: return below;
            default: return bad(BAD);
        }
    }

    public int image(int i) {
        if (!within(i, IMAGES - 1)) {
            return bad(BAD);
        }
        Hill image = images[i];
        // Made by the first call and written over by later ones, as all calls share one room.
        if (image == null) {
            image = new Hill();
            images[i] = image;
        }
        image.copyOf(now);
        return 1;
    }

    public int from(int i) {
        if (!within(i, IMAGES - 1)) {
            return bad(BAD);
        }
        Hill image = images[i];
        if (image == null) {
            return no();
        }
        now.copyOf(image);
        return 1;
    }

    public int status(int what) {
        switch (what) {
            case 0: return badCalls;
            case 1: return noCalls;
            case 2: return fullCalls;
            default: return bad(-1);
        }
    }

    public int count(int what) {
        return within(what, COUNTS - 1) ? howMany(what) : bad(BAD);
    }

    public long digest() {
        long h = 1327;
        for (int what = 0; what < COUNTS; what++) {
            h = 31 * h + howMany(what);
        }
        h = 31 * h + now.track;
        h = 31 * h + now.dark;
        for (int y = 0; y < YARDS; y++) {
            h = 31 * h + now.heights[y];
        }
        for (int p = 0; p < now.bidders; p++) {
            h = 31 * h + now.kinds[p];
            h = 31 * h + now.purses[p];
            h = 31 * h + now.paid[p];
            h = 31 * h + now.seats[p];
        }
        for (int i = 0; i < now.noteCount * NOTE_SIZE; i++) {
            h = 31 * h + now.notes[i];
        }
        h = 31 * h + above;
        return 31 * h + below;
    }

    private int howMany(int what) {
        switch (what) {
            case 0: return now.bidders;
            case 1: return now.freeYards();
            case 2: return now.seenByAll();
            case 3: return now.paidByAll();
            case 4: return now.noteCount;
            case 5: return now.steps;
            default: return text.length;
        }
    }

    private int bad(int answer) {
        badCalls++;
        return answer;
    }

    private int no() {
        noCalls++;
        return NO;
    }

    private int full() {
        fullCalls++;
        return FULL;
    }

    private boolean isBidder(int p) {
        return p >= 0 && p < now.bidders;
    }

    private static boolean isYard(int y) {
        return y >= 0 && y < YARDS;
    }

    private static boolean isTrack(int track, int dark) {
        return isYard(track) && within(dark, MOST_DARK);
    }

    private static boolean within(int number, int most) {
        return number >= 0 && number <= most;
    }

    private static int darkFrom(int track, int dark, int y) {
        return Math.max(0, dark - SECONDS_A_YARD * Math.abs(y - track));
    }

    private static int darkOver(int yards, int track, int dark) {
        int sum = 0;
        for (int y = 0; y < YARDS; y++) {
            if ((yards >> y & 1) == 1) {
                sum += darkFrom(track, dark, y);
            }
        }
        return sum;
    }

    /** The greatest number by which both go without rest. */
    private static int commonDivisor(int a, int b) {
        for (int d = b; d > 1; d--) {
            if (a % d == 0 && b % d == 0) {
                return d;
            }
        }
        return 1;
    }

    /** What seconds are worth to a kind, and how high its head is. */
    private static final class Kinds {
        static final int MANY = 6;
        private static final int TALL = 1;
        private static final int POOR = 2;
        private static final int DOG = 3;
        private static final int TRIPOD = 4;
        private static final int SCHOOL = 5;

        static int worth(int kind, int s, int h) {
            switch (kind) {
                case POOR: return s / 2;
                case DOG: return s == 0 ? 0 : s + 20 * h;
                case TRIPOD: return s < 200 ? 0 : s;
                case SCHOOL: return 3 * (s / 2);
                default: return s;
            }
        }

        static int head(int kind) {
            switch (kind) {
                case TALL: return 3;
                case DOG: return 0;
                case TRIPOD: return 4;
                case SCHOOL: return 0;
                default: return 1;
            }
        }
    }

    /** All that an image keeps. */
    private static final class Hill {
        int track = FIRST_TRACK;
        int dark = FIRST_DARK;
        final int[] heights = new int[YARDS];
        int bidders = 0;
        final int[] kinds = new int[MOST_BIDDERS];
        // As the kinds say; kept beside them because each look past a head asks for it.
        final int[] heads = new int[MOST_BIDDERS];
        final int[] purses = new int[MOST_BIDDERS];
        final int[] paid = new int[MOST_BIDDERS];
        final int[] seats = new int[MOST_BIDDERS];
        int noteCount = 0;
        final int[] notes = new int[MOST_NOTES * NOTE_SIZE];
        int steps = 0;
        final int[] past = new int[MOST_STEPS * STEP_SIZE];

        void begin(int newTrack, int newDark) {
            track = newTrack;
            dark = newDark;
            for (int y = 0; y < YARDS; y++) {
                heights[y] = 0;
            }
            bidders = 0;
            noteCount = 0;
            steps = 0;
        }

        void copyOf(Hill other) {
            track = other.track;
            dark = other.dark;
            System.arraycopy(other.heights, 0, heights, 0, YARDS);
            bidders = other.bidders;
            System.arraycopy(other.kinds, 0, kinds, 0, MOST_BIDDERS);
            System.arraycopy(other.heads, 0, heads, 0, MOST_BIDDERS);
            System.arraycopy(other.purses, 0, purses, 0, MOST_BIDDERS);
            System.arraycopy(other.paid, 0, paid, 0, MOST_BIDDERS);
            System.arraycopy(other.seats, 0, seats, 0, MOST_BIDDERS);
            noteCount = other.noteCount;
            System.arraycopy(other.notes, 0, notes, 0, MOST_NOTES * NOTE_SIZE);
            steps = other.steps;
            System.arraycopy(other.past, 0, past, 0, MOST_STEPS * STEP_SIZE);
        }

        /** Only where there are fewer bidders than may be. */
        int addBidder(int kind, int purse) {
            int p = bidders;
            kinds[p] = kind;
            heads[p] = Kinds.head(kind);
            purses[p] = purse;
            paid[p] = 0;
            seats[p] = NONE;
            bidders++;
            return p;
        }

        void remember() {
            if (steps >= MOST_STEPS) {
                System.arraycopy(past, STEP_SIZE, past, 0, (MOST_STEPS - 1) * STEP_SIZE);
                steps = MOST_STEPS - 1;
            }
            int at = steps * STEP_SIZE;
            System.arraycopy(seats, 0, past, at, MOST_BIDDERS);
            System.arraycopy(purses, 0, past, at + MOST_BIDDERS, MOST_BIDDERS);
            System.arraycopy(paid, 0, past, at + 2 * MOST_BIDDERS, MOST_BIDDERS);
            steps++;
        }

        /** Only where there is a step. */
        void stepBack() {
            steps--;
            int at = steps * STEP_SIZE;
            System.arraycopy(past, at, seats, 0, MOST_BIDDERS);
            System.arraycopy(past, at + MOST_BIDDERS, purses, 0, MOST_BIDDERS);
            System.arraycopy(past, at + 2 * MOST_BIDDERS, paid, 0, MOST_BIDDERS);
        }

        int darkIn(int y) {
            return darkFrom(track, dark, y);
        }

        int holder(int y) {
            for (int p = 0; p < bidders; p++) {
                if (seats[p] == y) {
                    return p;
                }
            }
            return NONE;
        }

        /** Whether the yard is its own or a free one. */
        boolean isOpenTo(int p, int y) {
            int there = holder(y);
            return there == NONE || there == p;
        }

        int freeYards() {
            int free = YARDS;
            for (int p = 0; p < bidders; p++) {
                if (seats[p] != NONE) {
                    free--;
                }
            }
            return free;
        }

        /** Whether a bidder in the yard "front" is in the way of whoever is in the yard y. */
        boolean hides(int p, int front, int y) {
            return front < y && heights[front] + heads[p] > heights[y];
        }

        /** Whether somebody else than these two is in the way of the yard y. */
        boolean isHidden(int y, int first, int second) {
            for (int p = 0; p < bidders; p++) {
                if (p != first && p != second && seats[p] != NONE && hides(p, seats[p], y)) {
                    return true;
                }
            }
            return false;
        }

        int seenIn(int p, int y) {
            return isHidden(y, p, p) ? 0 : darkIn(y);
        }

        int seenNow(int p) {
            return seats[p] == NONE ? 0 : seenIn(p, seats[p]);
        }

        int seenByAll() {
            int sum = 0;
            for (int p = 0; p < bidders; p++) {
                sum += seenNow(p);
            }
            return sum;
        }

        /** The yards, as bits, of those in whose way nobody is. */
        int openSeats() {
            int open = 0;
            for (int p = 0; p < bidders; p++) {
                if (seats[p] != NONE && !isHidden(seats[p], p, p)) {
                    open |= 1 << seats[p];
                }
            }
            return open;
        }

        int paidByAll() {
            int sum = 0;
            for (int p = 0; p < bidders; p++) {
                sum += paid[p];
            }
            return sum;
        }

        int worthIn(int p, int y) {
            return Kinds.worth(kinds[p], seenIn(p, y), heights[y]);
        }

        int bid(int p, int y) {
            return Math.min(worthIn(p, y), purses[p]);
        }

        /** The first of those without a yard who bid most, and above 0. */
        int topBidder(int y) {
            int who = NONE;
            int most = 0;
            for (int p = 0; p < bidders; p++) {
                if (seats[p] == NONE) {
                    int offered = bid(p, y);
                    if (offered > most) {
                        most = offered;
                        who = p;
                    }
                }
            }
            return who;
        }

        /** The most that anybody without a yard but the winner bids. */
        int price(int y, int winner) {
            int most = 0;
            for (int p = 0; p < bidders; p++) {
                if (p != winner && seats[p] == NONE) {
                    most = Math.max(most, bid(p, y));
                }
            }
            return most;
        }

        /** How much less the others see by p's being in y than were p nowhere. */
        int harm(int p, int y) {
            int lost = 0;
            for (int q = 0; q < bidders; q++) {
                int seat = seats[q];
                if (q != p && seat != NONE && hides(p, y, seat) && !isHidden(seat, q, p)) {
                    lost += darkIn(seat);
                }
            }
            return lost;
        }
    }

    /** The bytes of the text, and how a hill is read from them. */
    private static final class Text {
        private static final int END = 0;
        private static final int WORD = 1;
        private static final int NUMBER = 2;
        private static final int STOP = 3;
        private static final int STRANGE = 4;

        final byte[] bytes = new byte[MOST_BYTES];
        int length = 0;
        private int at = 0;
        private int token = END;
        private int start = 0;
        private int value = 0;

        /** How many items there are; or the answer to a fault, which is where the last token began. */
        int readInto(Hill draft) {
            draft.begin(FIRST_TRACK, FIRST_DARK);
            at = 0;
            step();
            int items = 0;
            while (items < MOST_BYTES && (items == 0 || token != END)) {
                if (!takeItem(draft, items == 0)) {
                    return FIRST_FAULT - start;
                }
                items++;
                step();
            }
            return items;
        }

        private boolean takeItem(Hill draft, boolean first) {
            if (token != WORD || isWord("hill") != first) {
                return false;
            }
            boolean fits = false;
            if (first) {
                fits = takeTrack(draft);
            } else if (isWord("dark")) {
                fits = takeDark(draft);
            } else if (isWord("heights")) {
                fits = takeHeights(draft);
            } else if (isWord("one")) {
                fits = takeBidder(draft);
            } else if (isWord("seat")) {
                fits = takeSeat(draft);
            }
            return fits && takeStop();
        }

        private boolean takeTrack(Hill draft) {
            if (!takeNumber(YARDS - 1)) {
                return false;
            }
            draft.track = value;
            return true;
        }

        private boolean takeDark(Hill draft) {
            if (!takeNumber(MOST_DARK / 10)) {
                return false;
            }
            draft.dark = 10 * value;
            return true;
        }

        private boolean takeHeights(Hill draft) {
            for (int y = 0; y < YARDS; y++) {
                if (!takeNumber(MOST_HEIGHT)) {
                    return false;
                }
                draft.heights[y] = value;
            }
            return true;
        }

        private boolean takeBidder(Hill draft) {
            if (draft.bidders >= MOST_BIDDERS || !takeNumber(Kinds.MANY - 1)) {
                return false;
            }
            int kind = value;
            if (!takeNumber(MOST_PURSE / 10)) {
                return false;
            }
            draft.addBidder(kind, 10 * value);
            return true;
        }

        private boolean takeSeat(Hill draft) {
            if (!takeNumber(draft.bidders - 1) || draft.seats[value] != NONE) {
                return false;
            }
            int p = value;
            if (!takeNumber(YARDS - 1) || draft.holder(value) != NONE) {
                return false;
            }
            draft.seats[p] = value;
            return true;
        }

        private boolean takeNumber(int most) {
            step();
            return token == NUMBER && value <= most;
        }

        private boolean takeStop() {
            step();
            return token == STOP;
        }

        private void step() {
            while (at < length && bytes[at] == ' ') {
                at++;
            }
            start = at;
            if (at >= length) {
                token = END;
                return;
            }
            while (at < length && isLetter(bytes[at])) {
                at++;
            }
            if (at > start) {
                token = WORD;
                return;
            }
            while (at < length && isFigure(bytes[at])) {
                at++;
            }
            if (at > start) {
                token = at - start <= 2 ? NUMBER : STRANGE;
                value = 10 * (at - start == 2 ? bytes[start] - '0' : 0) + bytes[at - 1] - '0';
                return;
            }
            token = bytes[at] == ';' ? STOP : STRANGE;
            at++;
        }

        private boolean isWord(String word) {
            if (at - start != word.length()) {
                return false;
            }
            for (int i = 0; i < word.length(); i++) {
                if (bytes[start + i] != word.charAt(i)) {
                    return false;
                }
            }
            return true;
        }

        private static boolean isLetter(int c) {
            return c >= 'a' && c <= 'z';
        }

        private static boolean isFigure(int c) {
            return c >= '0' && c <= '9';
        }
    }

    /**
     * All bidders seated anew. Yard by yard from the front it keeps, for each set of those who sit already and
     * each highest top among them, the best score: what is seen, and below that how early the way comes.
     */
    private static final class Seating {
        private static final int SETS = 1 << MOST_BIDDERS;
        // A top above every height hides all that is behind it, however high it is.
        private static final int MOST_TOP = MOST_HEIGHT + 1;
        private static final int TOPS = MOST_TOP + 1;
        private static final int UNREACHED = -1000000;
        private static final int SEAT_BITS = 3;
        private static final int WAY_BITS = SEAT_BITS * MOST_BIDDERS;

        private final int[] scores = new int[SETS * TOPS];
        private final int[] worths = new int[MOST_BIDDERS];
        private final int[] tops = new int[MOST_BIDDERS];
        private int score = 0;

        void work(Hill hill) {
            for (int i = 0; i < SETS * TOPS; i++) {
                scores[i] = UNREACHED;
            }
            scores[0] = 0;
            int everybody = (1 << hill.bidders) - 1;
            for (int y = 0; y < YARDS; y++) {
                lookAt(hill, y);
                // From the fullest set down, so that a yard takes one bidder at most.
                for (int set = everybody - 1; set >= 0; set--) {
                    spread(hill, y, set);
                }
            }
            score = UNREACHED;
            for (int top = 0; top < TOPS; top++) {
                score = Math.max(score, scores[everybody * TOPS + top]);
            }
        }

        int total() {
            // What a way takes off is less than one more second adds.
            return (score + (1 << WAY_BITS) - 1) >> WAY_BITS;
        }

        int seatFor(int p) {
            int way = (total() << WAY_BITS) - score;
            return (way >> seatShift(p)) & (YARDS - 1);
        }

        private void lookAt(Hill hill, int y) {
            int seconds = hill.darkIn(y);
            for (int p = 0; p < hill.bidders; p++) {
                worths[p] = Kinds.worth(hill.kinds[p], seconds, hill.heights[y]);
                tops[p] = Math.min(MOST_TOP, hill.heights[y] + hill.heads[p]);
            }
        }

        private void spread(Hill hill, int y, int set) {
            for (int top = 0; top < TOPS; top++) {
                int before = scores[set * TOPS + top];
                if (before != UNREACHED) {
                    boolean open = top <= hill.heights[y];
                    for (int p = 0; p < hill.bidders; p++) {
                        if ((set >> p & 1) == 0) {
                            int gain = open ? worths[p] << WAY_BITS : 0;
                            int to = (set | 1 << p) * TOPS + Math.max(top, tops[p]);
                            scores[to] = Math.max(scores[to], before + gain - (y << seatShift(p)));
                        }
                    }
                }
            }
        }

        private static int seatShift(int p) {
            return SEAT_BITS * (MOST_BIDDERS - 1 - p);
        }
    }

    /** Two who choose a yard each, all others nowhere. */
    private static final class Duel {
        private final int[] firstGets = new int[YARDS * YARDS];
        private final int[] secondGets = new int[YARDS * YARDS];
        private final int[] firstMost = new int[YARDS];
        private final int[] secondMost = new int[YARDS];

        void work(Hill hill, int a, int b) {
            for (int y = 0; y < YARDS; y++) {
                firstMost[y] = 0;
                secondMost[y] = 0;
            }
            for (int i = 0; i < YARDS; i++) {
                for (int j = 0; j < YARDS; j++) {
                    int first = gets(hill, a, i, b, j);
                    int second = gets(hill, b, j, a, i);
                    firstGets[YARDS * i + j] = first;
                    secondGets[YARDS * i + j] = second;
                    firstMost[j] = Math.max(firstMost[j], first);
                    secondMost[i] = Math.max(secondMost[i], second);
                }
            }
        }

        boolean rests(int i, int j) {
            return firstGets[YARDS * i + j] == firstMost[j] && secondGets[YARDS * i + j] == secondMost[i];
        }

        private static int gets(Hill hill, int p, int y, int q, int other) {
            if (y == other || hill.hides(q, other, y)) {
                return 0;
            }
            return Kinds.worth(hill.kinds[p], hill.darkIn(y), hill.heights[y]);
        }
    }

    /** What a bidder may be, by its notes. */
    private static final class Guess {
        private final int[] worths = new int[Kinds.MANY];

        int kindsOf(Hill hill, int p) {
            int fitting = 0;
            for (int kind = 0; kind < Kinds.MANY; kind++) {
                if (fits(hill, p, kind)) {
                    fitting |= 1 << kind;
                }
            }
            return fitting;
        }

        int nextFor(Hill hill, int p) {
            int fitting = kindsOf(hill, p);
            if (fitting == 0) {
                return NONE;
            }
            int asked = NONE;
            int fewest = Kinds.MANY + 1;
            for (int y = 0; y < YARDS; y++) {
                int seconds = hill.darkIn(y);
                for (int h = 0; h <= MOST_HEIGHT; h++) {
                    int alike = mostAlike(fitting, seconds, h);
                    if (alike < fewest) {
                        fewest = alike;
                        asked = 10 * y + h;
                    }
                }
            }
            return asked;
        }

        private static boolean fits(Hill hill, int p, int kind) {
            for (int i = 0; i < hill.noteCount; i++) {
                int at = i * NOTE_SIZE;
                if (hill.notes[at] == p
                        && Kinds.worth(kind, hill.notes[at + 1], hill.notes[at + 2]) != hill.notes[at + 3]) {
                    return false;
                }
            }
            return true;
        }

        private int mostAlike(int fitting, int s, int h) {
            for (int kind = 0; kind < Kinds.MANY; kind++) {
                worths[kind] = (fitting >> kind & 1) == 1 ? Kinds.worth(kind, s, h) : NONE;
            }
            int most = 0;
            for (int kind = 0; kind < Kinds.MANY; kind++) {
                if (worths[kind] != NONE) {
                    most = Math.max(most, likeOnes(kind));
                }
            }
            return most;
        }

        private int likeOnes(int kind) {
            int many = 0;
            for (int other = 0; other < Kinds.MANY; other++) {
                if (worths[other] == worths[kind]) {
                    many++;
                }
            }
            return many;
        }
    }
}
