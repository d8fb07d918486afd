import java.util.function.Supplier;

/**
 * Of each number that a call takes: the last ones that are as told, on both sides, and the first ones that are not,
 * and the ends of int. A refused one is counted once, as BAD, and leaves the digest as it was.
 */
public final class BoundsTest {
    private static final int BAD = -2;
    private static final int BAD_FIGURE = -10;
    private static final int BAD_BEST = -10000;
    private static final String[] WITH_BIDDERS = {"hill 3;", "hill 3;one 0 50;", "hill 3;one 0 50;one 0 50;"
            + "one 0 50;one 0 50;one 0 50;"};
    private static final String[] WITH_SEATS = {"hill 3;", "hill 3;one 0 50;seat 0 6;", "hill 3;one 0 50;one 0 50;"
            + "one 0 50;one 0 50;one 0 50;seat 0 6;seat 1 1;seat 2 2;seat 3 3;seat 4 4;"};
    private static final int[] MANY = {0, 1, 5};

    private interface Call {
        long on(EclipseSeats x, int number);
    }

    public static void main(String[] args) {
        hills();
        yards();
        whoSees();
        whatOneIs();
        whatThereIs();
        bidders();
        pairs();
        Due.end();
    }

    private static void hills() {
        bound("2 hill: track", 0, 7, BAD, EclipseSeats::new, (x, n) -> x.hill(n, 100));
        bound("2 hill: dark", 0, 240, BAD, EclipseSeats::new, (x, n) -> x.hill(4, n));
        bound("3 track: track", 0, 7, BAD, EclipseSeats::new, (x, n) -> x.track(n, 100));
        bound("3 track: dark", 0, 240, BAD, EclipseSeats::new, (x, n) -> x.track(4, n));
        bound("4 height: y", 0, 7, BAD, EclipseSeats::new, (x, n) -> x.height(n, 5));
        bound("4 height: h", 0, 9, BAD, EclipseSeats::new, (x, n) -> x.height(5, n));
        bound("5 one: kind", 0, 5, BAD, EclipseSeats::new, (x, n) -> x.one(n, 100));
        bound("5 one: purse", 0, 500, BAD, EclipseSeats::new, (x, n) -> x.one(1, n));
        bound("6 type: c", 0, 127, BAD, EclipseSeats::new, (x, n) -> x.type(n));
    }

    private static void yards() {
        bound("9 sell: y", 0, 7, BAD, () -> Due.told(WITH_BIDDERS[1]), (x, n) -> x.sell(n));
        bound("11 moves: y", 0, 7, BAD, () -> Due.told("hill 3;one 0 50;seat 0 6;"), (x, n) -> n == 6 ? 0 : x.moves(0, n));
        bound("13 of: what", 0, 4, BAD_FIGURE, () -> Due.told(WITH_SEATS[1]), (x, n) -> x.of(0, n));
        bound("14 yard: y", 0, 7, BAD_FIGURE, EclipseSeats::new, (x, n) -> x.yard(n, 0));
        bound("14 yard: what", 0, 2, BAD_FIGURE, EclipseSeats::new, (x, n) -> x.yard(0, n));
    }

    private static void whoSees() {
        bound("15 sees: y", -1, 7, BAD, () -> Due.told(WITH_SEATS[1]), (x, n) -> x.sees(0, n));
        bound("15 sees: y of one without", -1, 7, BAD, () -> Due.told(WITH_BIDDERS[1]), (x, n) -> x.sees(0, n));
        bound("16 gives: y", -1, 7, BAD, () -> Due.told(WITH_SEATS[1]), (x, n) -> x.gives(0, n));
        bound("16 gives: y of one without", -1, 7, BAD, () -> Due.told(WITH_BIDDERS[1]), (x, n) -> x.gives(0, n));
        bound("17 auction: y", 0, 7, BAD, EclipseSeats::new, (x, n) -> x.auction(n, 0));
        bound("17 auction: what", 0, 1, BAD, EclipseSeats::new, (x, n) -> x.auction(0, n));
        bound("18 hurt: y", 0, 7, BAD, () -> Due.told(WITH_SEATS[1]), (x, n) -> x.hurt(0, n));
        bound("19 best: what", 0, 1, BAD_BEST, () -> Due.told(WITH_BIDDERS[1]), (x, n) -> x.best(0, n));
        bound("21 move: what, nobody has a yard", 0, 1, BAD, EclipseSeats::new, (x, n) -> x.move(n));
        bound("21 move: what", 0, 1, BAD, () -> Due.told(WITH_SEATS[2]), (x, n) -> x.move(n));
    }

    private static void whatOneIs() {
        bound("22 note: s", 0, 240, BAD, () -> Due.told(WITH_BIDDERS[1]), (x, n) -> x.note(0, n, 1, 1));
        bound("22 note: h", 0, 9, BAD, () -> Due.told(WITH_BIDDERS[1]), (x, n) -> x.note(0, 1, n, 1));
        bound("22 note: w", 0, 500, BAD, () -> Due.told(WITH_BIDDERS[1]), (x, n) -> x.note(0, 1, 1, n));
        bound("27 clouds: c", 0, 10, BAD, () -> Due.told(WITH_SEATS[2]), (x, n) -> x.clouds(n));
        bound("28 eclipses: seed", 0, 999999, BAD, () -> Due.told(WITH_SEATS[2]), (x, n) -> x.eclipses(n, 60));
        bound("28 eclipses: n", 0, 60, BAD, () -> Due.told(WITH_SEATS[2]), (x, n) -> x.eclipses(999999, n));
    }

    private static void whatThereIs() {
        bound("29 part: what", 0, 1, BAD, EclipseSeats::new, (x, n) -> x.part(n));
        bound("30 image: i", 0, 1, BAD, EclipseSeats::new, (x, n) -> x.image(n));
        bound("31 from: i", 0, 1, BAD, BoundsTest::withImages, (x, n) -> x.from(n));
        bound("32 status: what", 0, 2, -1, EclipseSeats::new, (x, n) -> x.status(n));
        bound("33 count: what", 0, 6, BAD, EclipseSeats::new, (x, n) -> x.count(n));
    }

    /** A bidder's number goes from 0 to one less than there are: with none there, with one, with five. */
    private static void bidders() {
        for (int i = 0; i < MANY.length; i++) {
            String without = WITH_BIDDERS[i];
            String seated = WITH_SEATS[i];
            int last = MANY[i] - 1;
            String of = " of " + MANY[i] + " bidders";
            bound("10 leave: p" + of, 0, last, BAD, () -> Due.told(seated), (x, n) -> x.leave(n));
            bound("11 moves: p" + of, 0, last, BAD, () -> Due.told(seated), (x, n) -> x.moves(n, 7));
            bound("13 of: p" + of, 0, last, BAD_FIGURE, () -> Due.told(without), (x, n) -> x.of(n, 0));
            bound("15 sees: p now" + of, 0, last, BAD, () -> Due.told(without), (x, n) -> x.sees(n, -1));
            bound("15 sees: p" + of, 0, last, BAD, () -> Due.told(seated), (x, n) -> x.sees(n, 7));
            bound("16 gives: p now" + of, 0, last, BAD, () -> Due.told(without), (x, n) -> x.gives(n, -1));
            bound("16 gives: p" + of, 0, last, BAD, () -> Due.told(seated), (x, n) -> x.gives(n, 7));
            bound("18 hurt: p" + of, 0, last, BAD, () -> Due.told(seated), (x, n) -> x.hurt(n, 7));
            bound("19 best: p" + of, 0, last, BAD_BEST, () -> Due.told(seated), (x, n) -> x.best(n, 0));
            bound("19 best: p, how much" + of, 0, last, BAD_BEST, () -> Due.told(seated), (x, n) -> x.best(n, 1));
            bound("20 all: p" + of, -1, last, BAD_FIGURE, () -> Due.told(without), (x, n) -> x.all(n));
            bound("22 note: p" + of, 0, last, BAD, () -> Due.told(without), (x, n) -> x.note(n, 0, 0, 0));
            bound("24 is: p" + of, 0, last, BAD, () -> Due.told(without), (x, n) -> x.is(n));
            bound("25 offer: p" + of, 0, last, BAD, () -> Due.told(without), (x, n) -> x.offer(n));
        }
    }

    private static void pairs() {
        Supplier<EclipseSeats> five = () -> Due.told(WITH_BIDDERS[2]);
        bound("26 two: a below b", 0, 3, BAD_FIGURE, five, (x, n) -> x.two(n, 4, -1));
        bound("26 two: a above b", 1, 4, BAD_FIGURE, five, (x, n) -> x.two(n, 0, -1));
        bound("26 two: b above a", 1, 4, BAD_FIGURE, five, (x, n) -> x.two(0, n, -1));
        bound("26 two: b below a", 0, 3, BAD_FIGURE, five, (x, n) -> x.two(4, n, -1));
        for (int p = -1; p <= 5; p++) {
            int like = p;
            refused("26 two alike: " + p, BAD_FIGURE, five.get(), x -> x.two(like, like, -1));
            refused("26 two alike, the first: " + p, BAD_FIGURE, five.get(), x -> x.two(like, like, 0));
        }
        accepted("26 two: k", five.get(), -1, (x, n) -> x.two(0, 1, n));
        accepted("26 two: k", five.get(), 63, (x, n) -> x.two(0, 1, n));
        accepted("26 two: k", five.get(), 64, (x, n) -> x.two(0, 1, n));
        accepted("26 two: k", five.get(), Integer.MAX_VALUE, (x, n) -> x.two(0, 1, n));
        refused("26 two: k", BAD_FIGURE, five.get(), x -> x.two(0, 1, -2));
        refused("26 two: k", BAD_FIGURE, five.get(), x -> x.two(0, 1, Integer.MIN_VALUE));
        refused("26 two: one bidder is not two", BAD_FIGURE, Due.told(WITH_BIDDERS[1]), x -> x.two(0, 1, -1));
        refused("26 two: nobody is there", BAD_FIGURE, Due.told(WITH_BIDDERS[0]), x -> x.two(0, 1, -1));
    }

    private static EclipseSeats withImages() {
        EclipseSeats x = new EclipseSeats();
        x.image(0);
        x.image(1);
        return x;
    }

    private static void bound(String name, int least, int most, long refusal, Supplier<EclipseSeats> hill, Call call) {
        if (least <= most) {
            accepted(name, hill.get(), least, call);
            accepted(name, hill.get(), most, call);
            for (int n = least + 1; n < most && most < 1000; n++) {
                accepted(name, hill.get(), n, call);
            }
        }
        int[] wrong = {least - 1, most + 1, Integer.MIN_VALUE, Integer.MAX_VALUE};
        for (int n : wrong) {
            refused(name + " = " + n, refusal, hill.get(), x -> call.on(x, n));
        }
    }

    private static void accepted(String name, EclipseSeats x, int number, Call call) {
        call.on(x, number);
        for (int what = 0; what < 3; what++) {
            Due.due(name + " = " + number + ", refused as " + what, x.status(what), 0);
        }
    }

    private static void refused(String name, long refusal, EclipseSeats x, Due.Call call) {
        long before = x.digest();
        Due.due(name, call.on(x), refusal);
        Due.due(name + ", digest", x.digest(), before);
        Due.due(name + ", counted as BAD", x.status(0), 1);
        Due.due(name + ", counted as NO", x.status(1), 0);
        Due.due(name + ", counted as FULL", x.status(2), 0);
    }
}
