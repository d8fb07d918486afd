import java.util.ArrayList;
import java.util.Arrays;
import java.util.List;
import java.util.TreeMap;

/** The document once more, in the slowest and plainest way: every answer by trying all that there is. */
final class Model {
    private static final String[] WORDS = {"hill", "dark", "heights", "one", "seat"};

    static final class State {
        int track = 3;
        int dark = 240;
        int[] heights = new int[8];
        List<int[]> bidders = new ArrayList<>(); // kind, purse, paid, yard
        List<int[]> notes = new ArrayList<>();
        List<List<int[]>> past = new ArrayList<>();

        State copy() {
            State c = new State();
            c.track = track;
            c.dark = dark;
            c.heights = heights.clone();
            c.bidders = copyRows(bidders);
            c.notes = copyRows(notes);
            for (List<int[]> rows : past) {
                c.past.add(copyRows(rows));
            }
            return c;
        }
    }

    static List<int[]> copyRows(List<int[]> rows) {
        List<int[]> copies = new ArrayList<>();
        for (int[] row : rows) {
            copies.add(row.clone());
        }
        return copies;
    }

    State s = new State();
    final State[] images = new State[2];
    String text = "";
    long above = 0;
    long below = 1;
    final int[] refused = new int[3];

    private int bad(int answer) {
        refused[0]++;
        return answer;
    }

    private int no() {
        refused[1]++;
        return -3;
    }

    private int full() {
        refused[2]++;
        return -4;
    }

    private static boolean in(int v, int low, int high) {
        return low <= v && v <= high;
    }

    private boolean there(int p) {
        return in(p, 0, s.bidders.size() - 1);
    }

    static int worth(int kind, int seconds, int h) {
        if (kind == 0) {
            return seconds;
        } else if (kind == 1) {
            return worth(0, seconds, h);
        } else if (kind == 2) {
            return worth(0, seconds, h) / 2;
        } else if (kind == 3) {
            return seconds == 0 ? 0 : worth(0, seconds, h) + 20 * h;
        } else if (kind == 4) {
            return seconds < 200 ? 0 : worth(1, seconds, h);
        }
        return 3 * worth(2, seconds, h);
    }

    static int headOf(int kind) {
        return kind == 0 ? 1 : kind == 1 ? headOf(0) + 2 : kind == 2 ? headOf(0) : kind == 3 ? 0
                : kind == 4 ? headOf(1) + 1 : headOf(2) - 1;
    }

    private int darkIn(int y) {
        int d = s.dark;
        for (int i = Math.min(y, s.track); i < Math.max(y, s.track); i++) {
            d -= 9;
        }
        return d < 0 ? 0 : d;
    }

    /** What p sees when all sit as told, -1 being nowhere. */
    private int seen(int[] seats, int p) {
        if (seats[p] < 0) {
            return 0;
        }
        for (int y = 0; y < seats[p]; y++) {
            for (int q = 0; q < seats.length; q++) {
                if (q != p && seats[q] == y && s.heights[y] + headOf(s.bidders.get(q)[0]) > s.heights[seats[p]]) {
                    return 0;
                }
            }
        }
        return darkIn(seats[p]);
    }

    private int worthOf(int[] seats, int p) {
        return seats[p] < 0 ? 0 : worth(s.bidders.get(p)[0], seen(seats, p), s.heights[seats[p]]);
    }

    private int[] seats() {
        int[] seats = new int[s.bidders.size()];
        for (int p = 0; p < seats.length; p++) {
            seats[p] = s.bidders.get(p)[3];
        }
        return seats;
    }

    private int[] seatsWith(int p, int y) {
        int[] seats = seats();
        seats[p] = y;
        return seats;
    }

    private int who(int y) {
        int found = -1;
        for (int p = 0; p < s.bidders.size(); p++) {
            if (s.bidders.get(p)[3] == y) {
                found = p;
            }
        }
        return found;
    }

    private boolean taken(int p, int y) {
        return who(y) != -1 && who(y) != p;
    }

    private int othersSee(int[] seats, int p) {
        int sum = 0;
        for (int q = 0; q < seats.length; q++) {
            sum += q == p ? 0 : seen(seats, q);
        }
        return sum;
    }

    private int seenByAll() {
        return othersSee(seats(), -1);
    }

    int hill(int track, int dark) {
        if (!in(track, 0, 7) || !in(dark, 0, 240)) {
            return bad(-2);
        }
        int were = s.bidders.size();
        s = new State();
        s.track = track;
        s.dark = dark;
        return were;
    }

    int track(int track, int dark) {
        if (!in(track, 0, 7) || !in(dark, 0, 240)) {
            return bad(-2);
        }
        s.track = track;
        s.dark = dark;
        s.past.clear();
        return 1;
    }

    int height(int y, int h) {
        if (!in(y, 0, 7) || !in(h, 0, 9)) {
            return bad(-2);
        }
        int was = s.heights[y];
        s.heights[y] = h;
        s.past.clear();
        return was;
    }

    int one(int kind, int purse) {
        if (!in(kind, 0, 5) || !in(purse, 0, 500)) {
            return bad(-2);
        }
        if (s.bidders.size() == 5) {
            return full();
        }
        s.bidders.add(new int[] {kind, purse, 0, -1});
        s.past.clear();
        return s.bidders.size() - 1;
    }

    int type(int c) {
        if (!in(c, 0, 127)) {
            return bad(-2);
        }
        if (text.length() == 150) {
            return full();
        }
        text += (char) c;
        return text.length();
    }

    int clear() {
        int had = text.length();
        text = "";
        return had;
    }

    /** The tokens first, all of them; each as where it begins and what it is, a byte that begins none as itself. */
    private TreeMap<Integer, String> tokens() {
        TreeMap<Integer, String> tokens = new TreeMap<>();
        int i = 0;
        while (i < text.length()) {
            String rest = text.substring(i);
            String token = rest.replaceFirst("(?s)^([a-z]+|[0-9]+| +|.).*$", "$1");
            if (token.charAt(0) != ' ') {
                tokens.put(i, token);
            }
            i += token.length();
        }
        return tokens;
    }

    int read() {
        List<Integer> places = new ArrayList<>(tokens().keySet());
        List<String> words = new ArrayList<>(tokens().values());
        places.add(text.length());
        words.add("");
        State draft = new State();
        int at = 0;
        int items = 0;
        while (items == 0 || at < words.size() - 1) {
            int kind = Arrays.asList(WORDS).indexOf(words.get(at));
            if (kind < 0 || (kind == 0) != (items == 0) || (kind == 3 && draft.bidders.size() == 5)) {
                return -10 - places.get(at);
            }
            int[] numbers = new int[kind == 2 ? 8 : kind < 2 ? 1 : 2];
            for (int n = 0; n < numbers.length; n++) {
                at++;
                String w = words.get(at);
                if (!w.matches("[0-9]{1,2}") || !stands(draft, kind, numbers, n, Integer.parseInt(w))) {
                    return -10 - places.get(at);
                }
                numbers[n] = Integer.parseInt(w);
            }
            at++;
            if (!words.get(at).equals(";")) {
                return -10 - places.get(at);
            }
            apply(draft, kind, numbers);
            at++;
            items++;
        }
        s = draft;
        return items;
    }

    private static boolean stands(State draft, int kind, int[] numbers, int n, int v) {
        switch (kind) {
            case 0: return v <= 7;
            case 1: return v <= 24;
            case 2: return v <= 9;
            case 3: return n == 0 ? v <= 5 : v <= 50;
            default:
                if (n == 0) {
                    return v < draft.bidders.size() && draft.bidders.get(v)[3] == -1;
                }
                for (int[] b : draft.bidders) {
                    if (b[3] == v) {
                        return false;
                    }
                }
                return v <= 7;
        }
    }

    private static void apply(State draft, int kind, int[] numbers) {
        switch (kind) {
            case 0: draft.track = numbers[0]; break;
            case 1: draft.dark = 10 * numbers[0]; break;
            case 2: draft.heights = numbers.clone(); break;
            case 3: draft.bidders.add(new int[] {numbers[0], 10 * numbers[1], 0, -1}); break;
            default: draft.bidders.get(numbers[0])[3] = numbers[1]; break;
        }
    }

    private void remember() {
        s.past.add(copyRows(s.bidders));
        if (s.past.size() > 8) {
            s.past.remove(0);
        }
    }

    int sell(int y) {
        if (!in(y, 0, 7)) {
            return bad(-2);
        }
        int[] sold = sale(y);
        if (who(y) != -1 || sold[0] == -1) {
            return no();
        }
        remember();
        int[] b = s.bidders.get(sold[0]);
        b[1] -= sold[1];
        b[2] += sold[1];
        b[3] = y;
        return sold[0];
    }

    private int[] sale(int y) {
        List<int[]> bids = new ArrayList<>();
        for (int p = 0; p < s.bidders.size(); p++) {
            if (s.bidders.get(p)[3] == -1) {
                bids.add(new int[] {p, Math.min(s.bidders.get(p)[1], worthOf(seatsWith(p, y), p))});
            }
        }
        bids.sort((a, b) -> b[1] - a[1]);
        if (bids.isEmpty() || bids.get(0)[1] == 0) {
            return new int[] {-1, -1};
        }
        return new int[] {bids.get(0)[0], bids.size() == 1 ? 0 : bids.get(1)[1]};
    }

    int leave(int p) {
        if (!there(p)) {
            return bad(-2);
        }
        int was = s.bidders.get(p)[3];
        if (was == -1) {
            return no();
        }
        remember();
        s.bidders.get(p)[3] = -1;
        return was;
    }

    int moves(int p, int y) {
        if (!there(p) || !in(y, 0, 7)) {
            return bad(-2);
        }
        int was = s.bidders.get(p)[3];
        if (was == -1 || was == y || taken(p, y)) {
            return no();
        }
        remember();
        s.bidders.get(p)[3] = y;
        return was;
    }

    int undo() {
        if (s.past.isEmpty()) {
            return no();
        }
        s.bidders = s.past.remove(s.past.size() - 1);
        return count(1);
    }

    int of(int p, int what) {
        if (!there(p) || !in(what, 0, 4)) {
            return bad(-10);
        }
        return what == 4 ? headOf(s.bidders.get(p)[0]) : s.bidders.get(p)[what];
    }

    int yard(int y, int what) {
        if (!in(y, 0, 7) || !in(what, 0, 2)) {
            return bad(-10);
        }
        return what == 0 ? s.heights[y] : what == 1 ? darkIn(y) : who(y);
    }

    int sees(int p, int y) {
        if (!there(p) || !in(y, -1, 7)) {
            return bad(-2);
        }
        if (y >= 0 && taken(p, y)) {
            return no();
        }
        return seen(y == -1 ? seats() : seatsWith(p, y), p);
    }

    int gives(int p, int y) {
        if (!there(p) || !in(y, -1, 7)) {
            return bad(-2);
        }
        if (y >= 0 && taken(p, y)) {
            return no();
        }
        return Math.min(s.bidders.get(p)[1], worthOf(y == -1 ? seats() : seatsWith(p, y), p));
    }

    int auction(int y, int what) {
        if (!in(y, 0, 7) || !in(what, 0, 1)) {
            return bad(-2);
        }
        return who(y) != -1 ? no() : sale(y)[what];
    }

    private int harm(int p, int y) {
        return othersSee(seatsWith(p, -1), p) - othersSee(seatsWith(p, y), p);
    }

    int hurt(int p, int y) {
        if (!there(p) || !in(y, 0, 7)) {
            return bad(-2);
        }
        return taken(p, y) ? no() : harm(p, y);
    }

    int best(int p, int what) {
        if (!there(p) || !in(what, 0, 1)) {
            return bad(-10000);
        }
        int[] found = null;
        for (int y = 0; y < 8; y++) {
            if (!taken(p, y)) {
                int gain = worthOf(seatsWith(p, y), p) - harm(p, y);
                if (found == null || gain > found[1]) {
                    found = new int[] {y, gain};
                }
            }
        }
        return found[what];
    }

    private int[] way;
    private int most;

    int all(int p) {
        if (p != -1 && !there(p)) {
            return bad(-10);
        }
        most = -1;
        seatOn(new int[s.bidders.size()], 0);
        return p == -1 ? most : way[p];
    }

    private void seatOn(int[] seats, int p) {
        if (p == seats.length) {
            int sum = 0;
            for (int q = 0; q < seats.length; q++) {
                sum += worthOf(seats, q);
            }
            if (sum > most) {
                most = sum;
                way = seats.clone();
            }
            return;
        }
        for (int y = 0; y < 8; y++) {
            boolean free = true;
            for (int q = 0; q < p; q++) {
                free &= seats[q] != y;
            }
            if (free) {
                seats[p] = y;
                for (int q = p + 1; q < seats.length; q++) {
                    seats[q] = -1;
                }
                seatOn(seats, p + 1);
            }
        }
    }

    int move(int what) {
        if (!in(what, 0, 1)) {
            return bad(-2);
        }
        int[] found = {-1, -1};
        for (int p = 0; p < s.bidders.size(); p++) {
            int y = s.bidders.get(p)[3];
            if (y != -1 && harm(p, y) > found[1]) {
                found = new int[] {p, harm(p, y)};
            }
        }
        return found[what];
    }

    int note(int p, int seconds, int h, int w) {
        if (!there(p) || !in(seconds, 0, 240) || !in(h, 0, 9) || !in(w, 0, 500)) {
            return bad(-2);
        }
        if (s.notes.size() == 6) {
            return full();
        }
        s.notes.add(new int[] {p, seconds, h, w});
        return s.notes.size();
    }

    int forget() {
        int were = s.notes.size();
        s.notes.clear();
        return were;
    }

    private List<Integer> kinds(int p) {
        List<Integer> kinds = new ArrayList<>(List.of(0, 1, 2, 3, 4, 5));
        for (int[] n : s.notes) {
            if (n[0] == p) {
                kinds.removeIf(k -> worth(k, n[1], n[2]) != n[3]);
            }
        }
        return kinds;
    }

    int is(int p) {
        if (!there(p)) {
            return bad(-2);
        }
        int bits = 0;
        for (int k : kinds(p)) {
            bits += 1 << k;
        }
        return bits;
    }

    int offer(int p) {
        if (!there(p)) {
            return bad(-2);
        }
        int found = -1;
        int fewest = 7;
        for (int i = 0; i < 80 && !kinds(p).isEmpty(); i++) {
            TreeMap<Integer, Integer> groups = new TreeMap<>();
            int largest = 0;
            for (int k : kinds(p)) {
                largest = Math.max(largest, groups.merge(worth(k, darkIn(i / 10), i % 10), 1, Integer::sum));
            }
            if (largest < fewest) {
                fewest = largest;
                found = i;
            }
        }
        return found;
    }

    int two(int a, int b, int k) {
        if (!there(a) || !there(b) || a == b || k < -1) {
            return bad(-10);
        }
        List<Integer> pairs = new ArrayList<>();
        for (int i = 0; i < 8; i++) {
            for (int j = 0; j < 8; j++) {
                boolean rests = true;
                for (int other = 0; other < 8; other++) {
                    rests &= gets(a, other, b, j) <= gets(a, i, b, j);
                    rests &= gets(b, other, a, i) <= gets(b, j, a, i);
                }
                if (rests) {
                    pairs.add(8 * i + j);
                }
            }
        }
        return k == -1 ? pairs.size() : k < pairs.size() ? pairs.get(k) : -5;
    }

    private int gets(int p, int y, int q, int other) {
        int[] seats = new int[s.bidders.size()];
        Arrays.fill(seats, -1);
        seats[p] = y;
        seats[q] = other;
        return y == other ? 0 : worthOf(seats, p);
    }

    int clouds(int c) {
        if (!in(c, 0, 10)) {
            return bad(-2);
        }
        // Over all ways of clouds on the eight yards, each of the weight that its odds give it.
        long sum = 0;
        long whole = 0;
        for (int ways = 0; ways < 256; ways++) {
            long weight = 1;
            for (int y = 0; y < 8; y++) {
                weight *= (ways >> y & 1) == 1 ? c : 10 - c;
            }
            whole += weight;
            for (int p = 0; p < s.bidders.size(); p++) {
                int y = s.bidders.get(p)[3];
                sum += y >= 0 && (ways >> y & 1) == 0 ? weight * seen(seats(), p) : 0;
            }
        }
        long d = java.math.BigInteger.valueOf(sum).gcd(java.math.BigInteger.valueOf(whole)).longValue();
        above = sum / d;
        below = whole / d;
        return 1;
    }

    int eclipses(int seed, int n) {
        if (!in(seed, 0, 999999) || !in(n, 0, 60)) {
            return bad(-2);
        }
        State was = s;
        s = was.copy();
        long x = seed;
        int sum = 0;
        for (int i = 0; i < n; i++) {
            x = (x * 1103515245L + 12345) & 0x7fffffffL;
            s.track = (int) (x >> 16) & 7;
            s.dark = (int) (x >> 20) % 241;
            sum += seenByAll();
        }
        s = was;
        return sum;
    }

    long part(int what) {
        return what == 0 ? above : what == 1 ? below : bad(-2);
    }

    int image(int i) {
        if (!in(i, 0, 1)) {
            return bad(-2);
        }
        images[i] = s.copy();
        return 1;
    }

    int from(int i) {
        if (!in(i, 0, 1)) {
            return bad(-2);
        }
        if (images[i] == null) {
            return no();
        }
        s = images[i].copy();
        return 1;
    }

    int status(int what) {
        return in(what, 0, 2) ? refused[what] : bad(-1);
    }

    int count(int what) {
        switch (what) {
            case 0: return s.bidders.size();
            case 1:
                int free = 0;
                for (int y = 0; y < 8; y++) {
                    free += who(y) == -1 ? 1 : 0;
                }
                return free;
            case 2: return seenByAll();
            case 3: return s.bidders.stream().mapToInt(b -> b[2]).sum();
            case 4: return s.notes.size();
            case 5: return s.past.size();
            case 6: return text.length();
            default: return bad(-2);
        }
    }

    long digest() {
        List<Long> values = new ArrayList<>();
        for (int what = 0; what < 7; what++) {
            values.add((long) count(what));
        }
        values.add((long) s.track);
        values.add((long) s.dark);
        for (int h : s.heights) {
            values.add((long) h);
        }
        for (int[] row : s.bidders) {
            for (int v : row) {
                values.add((long) v);
            }
        }
        for (int[] row : s.notes) {
            for (int v : row) {
                values.add((long) v);
            }
        }
        values.add(above);
        values.add(below);
        long h = 1327;
        for (long v : values) {
            h = 31 * h + v;
        }
        return h;
    }
}
