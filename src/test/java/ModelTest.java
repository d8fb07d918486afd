import java.util.Random;

/** Runs of calls, drawn by fixed seeds, whose every answer the model gives as well. */
public final class ModelTest {
    private static final int RUNS = 400;
    // An object is used for 512 calls at most: the last one is the digest, and a text takes up to so many.
    private static final int CALLS = 511;
    private static final int CALLS_OF_A_TEXT = 152;
    private static final int[] ODD = {-1, -2, -3, 8, 9, 10, 128, 241, 501, Integer.MAX_VALUE, Integer.MIN_VALUE};
    private static final String[] SCRAPS = {
        "hill ", "dark ", "heights ", "one ", "seat ", "0", "1", "2", "7", " ", " ", ";", ";", "24", "50", "100", "x", "-", "Z",
    };

    private final Random random;
    private final EclipseSeats x = new EclipseSeats();
    private final Model m = new Model();

    private ModelTest(long seed) {
        random = new Random(seed);
    }

    public static void main(String[] args) {
        for (int run = 0; run < RUNS; run++) {
            new ModelTest(run).go(run);
        }
        Due.end();
    }

    private void go(int run) {
        int calls = 0;
        while (calls < CALLS) {
            int what = random.nextInt(calls + CALLS_OF_A_TEXT <= CALLS ? 40 : 39);
            calls += what == 39 ? text(run) : call(run, what);
        }
        Due.due("run " + run + ": digest()", x.digest(), m.digest());
    }

    /** A number as told, but for some. */
    private int upTo(int most) {
        return random.nextInt(40) == 0 ? ODD[random.nextInt(ODD.length)] : random.nextInt(most + 1);
    }

    private int bidder() {
        int there = m.s.bidders.size();
        return there == 0 || random.nextInt(20) == 0 ? upTo(5) : random.nextInt(there);
    }

    private int yardOrNone() {
        return random.nextInt(4) == 0 ? -1 : upTo(7);
    }

    private int seconds() {
        return random.nextInt(3) == 0 ? 195 + random.nextInt(46) : upTo(240);
    }

    private int call(int run, int what) {
        int a;
        int b;
        String at = "run " + run + ": ";
        switch (what) {
            case 0:
                if (random.nextInt(4) != 0) {
                    return 0;
                }
                a = upTo(7);
                b = seconds();
                Due.due(at + "hill(" + a + ", " + b + ")", x.hill(a, b), m.hill(a, b));
                return 1;
            case 1:
                a = upTo(7);
                b = seconds();
                Due.due(at + "track(" + a + ", " + b + ")", x.track(a, b), m.track(a, b));
                return 1;
            case 2: case 35:
                a = upTo(7);
                b = upTo(9);
                Due.due(at + "height(" + a + ", " + b + ")", x.height(a, b), m.height(a, b));
                return 1;
            case 3: case 36: case 37:
                a = upTo(5);
                b = upTo(500);
                Due.due(at + "one(" + a + ", " + b + ")", x.one(a, b), m.one(a, b));
                return 1;
            case 4: a = upTo(127); Due.due(at + "type(" + a + ")", x.type(a), m.type(a)); return 1;
            case 5: Due.due(at + "clear()", x.clear(), m.clear()); return 1;
            case 6: Due.due(at + "read()", x.read(), m.read()); return 1;
            case 7: case 33: case 34: case 38:
                a = upTo(7);
                Due.due(at + "sell(" + a + ")", x.sell(a), m.sell(a));
                return 1;
            case 8: a = bidder(); Due.due(at + "leave(" + a + ")", x.leave(a), m.leave(a)); return 1;
            case 9:
                a = bidder();
                b = upTo(7);
                Due.due(at + "moves(" + a + ", " + b + ")", x.moves(a, b), m.moves(a, b));
                return 1;
            case 10: Due.due(at + "undo()", x.undo(), m.undo()); return 1;
            case 11: a = bidder(); b = upTo(4); Due.due(at + "of(" + a + ", " + b + ")", x.of(a, b), m.of(a, b)); return 1;
            case 12: a = upTo(7); b = upTo(2); Due.due(at + "yard(" + a + ", " + b + ")", x.yard(a, b), m.yard(a, b)); return 1;
            default: return ask(at, what);
        }
    }

    private int ask(String at, int what) {
        int a = bidder();
        int b;
        int c;
        switch (what) {
            case 13: b = yardOrNone(); Due.due(at + "sees(" + a + ", " + b + ")", x.sees(a, b), m.sees(a, b)); break;
            case 14: b = yardOrNone(); Due.due(at + "gives(" + a + ", " + b + ")", x.gives(a, b), m.gives(a, b)); break;
            case 15: a = upTo(7); b = upTo(1); Due.due(at + "auction(" + a + ", " + b + ")", x.auction(a, b), m.auction(a, b)); break;
            case 16: b = upTo(7); Due.due(at + "hurt(" + a + ", " + b + ")", x.hurt(a, b), m.hurt(a, b)); break;
            case 17: b = upTo(1); Due.due(at + "best(" + a + ", " + b + ")", x.best(a, b), m.best(a, b)); break;
            case 18:
                a = random.nextInt(4) == 0 ? -1 : a;
                Due.due(at + "all(" + a + ")", x.all(a), m.all(a));
                break;
            case 19: a = upTo(1); Due.due(at + "move(" + a + ")", x.move(a), m.move(a)); break;
            case 20:
                b = seconds();
                c = upTo(9);
                int w = random.nextInt(8) == 0 ? upTo(500) : Model.worth(random.nextInt(6), b, c);
                Due.due(at + "note(" + a + ", " + b + ", " + c + ", " + w + ")", x.note(a, b, c, w), m.note(a, b, c, w));
                break;
            case 21: Due.due(at + "forget()", x.forget(), m.forget()); break;
            case 22: Due.due(at + "is(" + a + ")", x.is(a), m.is(a)); break;
            case 23: Due.due(at + "offer(" + a + ")", x.offer(a), m.offer(a)); break;
            case 24:
                b = bidder();
                c = random.nextInt(3) - 1 + (random.nextInt(4) == 0 ? upTo(63) : 0);
                Due.due(at + "two(" + a + ", " + b + ", " + c + ")", x.two(a, b, c), m.two(a, b, c));
                break;
            case 25: a = upTo(10); Due.due(at + "clouds(" + a + ")", x.clouds(a), m.clouds(a)); break;
            case 26:
                a = upTo(999999);
                b = upTo(60);
                Due.due(at + "eclipses(" + a + ", " + b + ")", x.eclipses(a, b), m.eclipses(a, b));
                break;
            case 27: a = upTo(1); Due.due(at + "part(" + a + ")", x.part(a), m.part(a)); break;
            case 28: a = upTo(1); Due.due(at + "image(" + a + ")", x.image(a), m.image(a)); break;
            case 29: a = upTo(1); Due.due(at + "from(" + a + ")", x.from(a), m.from(a)); break;
            case 30: a = upTo(2); Due.due(at + "status(" + a + ")", x.status(a), m.status(a)); break;
            case 31: a = upTo(6); Due.due(at + "count(" + a + ")", x.count(a), m.count(a)); break;
            default: Due.due(at + "digest()", x.digest(), m.digest()); break;
        }
        return 1;
    }

    private int text(int run) {
        String text = random.nextBoolean() ? hillText() : scraps();
        Due.due("run " + run + ": clear()", x.clear(), m.clear());
        for (int i = 0; i < text.length(); i++) {
            x.type(text.charAt(i));
            m.type(text.charAt(i));
        }
        Due.due("run " + run + ": read() of " + text, x.read(), m.read());
        return text.length() + 2;
    }

    /** A text as told, at times with one byte that is another. */
    private String hillText() {
        StringBuilder b = new StringBuilder("hill " + random.nextInt(8) + ";");
        if (random.nextBoolean()) {
            b.append("dark ").append(random.nextInt(25)).append(';');
        }
        if (random.nextBoolean()) {
            b.append("heights");
            for (int y = 0; y < 8; y++) {
                b.append(' ').append(random.nextInt(10));
            }
            b.append(';');
        }
        int bidders = random.nextInt(6);
        for (int p = 0; p < bidders; p++) {
            b.append("one ").append(random.nextInt(6)).append(' ').append(random.nextInt(51)).append(';');
        }
        for (int p = 0; p < bidders; p++) {
            if (random.nextBoolean()) {
                b.append("seat ").append(p).append(' ').append(random.nextInt(8)).append(';');
            }
        }
        if (random.nextInt(3) == 0) {
            b.setCharAt(random.nextInt(b.length()), " 0;a9s-".charAt(random.nextInt(7)));
        }
        return b.toString();
    }

    private String scraps() {
        StringBuilder b = new StringBuilder(random.nextInt(4) == 0 ? "" : "hill 1;");
        int many = random.nextInt(12);
        for (int i = 0; i < many; i++) {
            b.append(SCRAPS[random.nextInt(SCRAPS.length)]);
        }
        return b.toString();
    }
}
