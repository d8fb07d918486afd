import java.util.function.Supplier;

/**
 * Each call that is refused, by each of its reasons: its answer, that STATUS counts it once and where, and that
 * nothing else is changed: a twin without the refused call answers all the same, down to what may be undone, what
 * THE TEXT holds and what IMAGES keep.
 */
public final class RefusedTest {
    private static final int BAD = 0;
    private static final int NO = 1;
    private static final int FULL = 2;
    private static final int NOT_REFUSED = -1;

    public static void main(String[] args) {
        theHillsAreAsMeant();
        badAnywhere();
        badWithBidders();
        noAtFirst();
        noWithSeats();
        noMoreToUndo();
        full();
        badIsAheadOfNo();
        badIsAheadOfFull();
        answersThatAreNoRefusals();
        nothingIsChangedByThese();
        Due.end();
    }

    private static void theHillsAreAsMeant() {
        EclipseSeats x = midway();
        Due.due("midway: yard of 0", x.of(0, 3), 0);
        Due.due("midway: yard of 1", x.of(1, 3), 5);
        Due.due("midway: yard of 2", x.of(2, 3), -1);
        Due.due("midway: what may be undone", x.count(5), 2);
        x = crowded();
        int[] whats = {0, 1, 4, 5, 6};
        int[] counts = {5, 3, 6, 8, 150};
        for (int i = 0; i < whats.length; i++) {
            Due.due("crowded: count " + whats[i], x.count(whats[i]), counts[i]);
        }
    }

    private static void badAnywhere() {
        badEverywhere("2 hill", -2, x -> x.hill(8, 240));
        badEverywhere("2 hill", -2, x -> x.hill(7, 241));
        badEverywhere("3 track", -2, x -> x.track(-1, 0));
        badEverywhere("3 track", -2, x -> x.track(0, -1));
        badEverywhere("4 height", -2, x -> x.height(8, 9));
        badEverywhere("4 height", -2, x -> x.height(7, 10));
        badEverywhere("6 type", -2, x -> x.type(128));
        badEverywhere("6 type", -2, x -> x.type(-1));
        badEverywhere("9 sell", -2, x -> x.sell(8));
        badEverywhere("14 yard", -10, x -> x.yard(8, 0));
        badEverywhere("14 yard", -10, x -> x.yard(0, 3));
        badEverywhere("17 auction", -2, x -> x.auction(-1, 0));
        badEverywhere("17 auction", -2, x -> x.auction(0, 2));
        badEverywhere("21 move", -2, x -> x.move(2));
        badEverywhere("27 clouds", -2, x -> x.clouds(11));
        badEverywhere("28 eclipses", -2, x -> x.eclipses(1000000, 60));
        badEverywhere("28 eclipses", -2, x -> x.eclipses(999999, 61));
        badEverywhere("29 part", -2, x -> x.part(2));
        badEverywhere("30 image", -2, x -> x.image(2));
        badEverywhere("31 from", -2, x -> x.from(2));
        badEverywhere("32 status", -1, x -> x.status(3));
        badEverywhere("33 count", -2, x -> x.count(7));
        badEverywhere("5 one", -2, x -> x.one(6, 500));
        badEverywhere("5 one", -2, x -> x.one(5, 501));
    }

    /** The first number that no bidder has, by how many there are. */
    private static void badWithBidders() {
        badEverywhere("10 leave", -2, x -> x.leave(x.count(0)));
        badEverywhere("11 moves", -2, x -> x.moves(x.count(0), 7));
        badEverywhere("13 of", -10, x -> x.of(x.count(0), 0));
        badEverywhere("15 sees", -2, x -> x.sees(x.count(0), 7));
        badEverywhere("15 sees now", -2, x -> x.sees(x.count(0), -1));
        badEverywhere("16 gives", -2, x -> x.gives(x.count(0), 7));
        badEverywhere("16 gives now", -2, x -> x.gives(x.count(0), -1));
        badEverywhere("18 hurt", -2, x -> x.hurt(x.count(0), 7));
        badEverywhere("19 best", -10000, x -> x.best(x.count(0), 0));
        badEverywhere("20 all", -10, x -> x.all(x.count(0)));
        badEverywhere("22 note", -2, x -> x.note(x.count(0), 0, 0, 0));
        badEverywhere("24 is", -2, x -> x.is(x.count(0)));
        badEverywhere("25 offer", -2, x -> x.offer(x.count(0)));
        badEverywhere("26 two", -10, x -> x.two(x.count(0), 0, -1));
        badEverywhere("26 two", -10, x -> x.two(0, x.count(0), -1));
        badEverywhere("26 two alike", -10, x -> x.two(0, 0, -1));
        bad("11 moves", -2, RefusedTest::midway, x -> x.moves(0, 8));
        bad("13 of", -10, RefusedTest::midway, x -> x.of(0, 5));
        bad("15 sees", -2, RefusedTest::midway, x -> x.sees(0, 8));
        bad("16 gives", -2, RefusedTest::midway, x -> x.gives(0, 8));
        bad("18 hurt", -2, RefusedTest::midway, x -> x.hurt(0, -1));
        bad("19 best", -10000, RefusedTest::midway, x -> x.best(0, 2));
        bad("22 note", -2, RefusedTest::midway, x -> x.note(0, 241, 0, 0));
        bad("22 note", -2, RefusedTest::midway, x -> x.note(0, 0, 10, 0));
        bad("22 note", -2, RefusedTest::midway, x -> x.note(0, 0, 0, 501));
        bad("26 two", -10, RefusedTest::midway, x -> x.two(0, 1, -2));
    }

    private static void noAtFirst() {
        no("9 sell: no bidder is there", EclipseSeats::new, x -> x.sell(0));
        no("12 undo: nothing was done", EclipseSeats::new, x -> x.undo());
        no("31 from: none was kept", EclipseSeats::new, x -> x.from(0));
        no("31 from: none was kept", EclipseSeats::new, x -> x.from(1));
        no("31 from: the other was kept", RefusedTest::midway, x -> x.from(1));
    }

    private static void noWithSeats() {
        no("9 sell: somebody has it", RefusedTest::midway, x -> x.sell(0));
        no("9 sell: nobody would, behind a head", RefusedTest::midway, x -> x.sell(6));
        no("9 sell: nobody is without", RefusedTest::crowded, x -> x.sell(7));
        no("10 leave: it has none", RefusedTest::midway, x -> x.leave(2));
        no("11 moves: it has none", RefusedTest::midway, x -> x.moves(2, 7));
        no("11 moves: it has none, and somebody is there", RefusedTest::midway, x -> x.moves(2, 0));
        no("11 moves: somebody else is there", RefusedTest::midway, x -> x.moves(0, 5));
        no("11 moves: it is its own", RefusedTest::midway, x -> x.moves(0, 0));
        no("15 sees: somebody else is there", RefusedTest::midway, x -> x.sees(2, 0));
        no("15 sees: somebody else is there, it has one", RefusedTest::midway, x -> x.sees(1, 0));
        no("16 gives: somebody else is there", RefusedTest::midway, x -> x.gives(2, 0));
        no("16 gives: somebody else is there, it has one", RefusedTest::midway, x -> x.gives(1, 0));
        no("17 auction: somebody has it", RefusedTest::midway, x -> x.auction(0, 0));
        no("17 auction: somebody has it, the price", RefusedTest::midway, x -> x.auction(0, 1));
        no("18 hurt: somebody else is there", RefusedTest::midway, x -> x.hurt(2, 0));
        no("18 hurt: somebody else is there, it has one", RefusedTest::midway, x -> x.hurt(1, 0));
    }

    /** What leaves nothing to undo, each told of a hill where something might have been. */
    private static void noMoreToUndo() {
        no("12 undo: all was undone", () -> after(x -> x.undo() + x.undo()), x -> x.undo());
        no("12 undo: behind a bidder that came", () -> after(x -> x.one(0, 0)), x -> x.undo());
        no("12 undo: behind a height", () -> after(x -> x.height(0, 1)), x -> x.undo());
        no("12 undo: behind a track", () -> after(x -> x.track(0, 0)), x -> x.undo());
        no("12 undo: behind a hill", () -> after(x -> x.hill(0, 0)), x -> x.undo());
        no("12 undo: behind a hill that was read", () -> after(x -> Due.readText(x, "hill 0;one 0 0;seat 0 0;")),
                x -> x.undo());
        no("12 undo: in an image kept ahead of it", () -> after(x -> x.from(0)), x -> x.undo());
    }

    private static void full() {
        refused("5 one: five are there", FULL, -4, RefusedTest::crowded, x -> x.one(0, 0));
        refused("6 type: 150 bytes are there", FULL, -4, RefusedTest::crowded, x -> x.type('a'));
        refused("22 note: six are there", FULL, -4, RefusedTest::crowded, x -> x.note(0, 0, 0, 0));
    }

    private static void badIsAheadOfNo() {
        bad("9 sell", -2, EclipseSeats::new, x -> x.sell(-1));
        bad("11 moves: no bidder, a yard with somebody", -2, RefusedTest::midway, x -> x.moves(3, 0));
        bad("11 moves: it has none, no yard", -2, RefusedTest::midway, x -> x.moves(2, 8));
        bad("15 sees: no bidder, a yard with somebody", -2, RefusedTest::midway, x -> x.sees(3, 0));
        bad("16 gives: no bidder, a yard with somebody", -2, RefusedTest::midway, x -> x.gives(-1, 0));
        bad("17 auction: a yard with somebody, another what", -2, RefusedTest::midway, x -> x.auction(0, 2));
        bad("18 hurt: no bidder, a yard with somebody", -2, RefusedTest::midway, x -> x.hurt(3, 0));
        bad("31 from: no image, none kept", -2, EclipseSeats::new, x -> x.from(-1));
    }

    private static void badIsAheadOfFull() {
        bad("5 one: no kind", -2, RefusedTest::crowded, x -> x.one(-1, 0));
        bad("5 one: no purse", -2, RefusedTest::crowded, x -> x.one(0, -1));
        bad("6 type: no byte", -2, RefusedTest::crowded, x -> x.type(128));
        bad("22 note: no bidder", -2, RefusedTest::crowded, x -> x.note(5, 0, 0, 0));
        bad("22 note: no seconds", -2, RefusedTest::crowded, x -> x.note(0, -1, 0, 0));
        bad("22 note: no height", -2, RefusedTest::crowded, x -> x.note(0, 0, -1, 0));
        bad("22 note: no worth", -2, RefusedTest::crowded, x -> x.note(0, 0, 0, -1));
    }

    /** Answers below 0 that STATUS does not count; they change nothing either. */
    private static void answersThatAreNoRefusals() {
        refused("8 read: a fault", NOT_REFUSED, -10, EclipseSeats::new, x -> x.read());
        refused("8 read: a fault", NOT_REFUSED, -10 - 150, RefusedTest::crowded, x -> x.read());
        refused("13 of: no yard", NOT_REFUSED, -1, RefusedTest::midway, x -> x.of(2, 3));
        refused("14 yard: nobody", NOT_REFUSED, -1, EclipseSeats::new, x -> x.yard(0, 2));
        refused("17 auction: no bidder is without", NOT_REFUSED, -1, RefusedTest::crowded, x -> x.auction(7, 0));
        refused("17 auction: no bidder is without", NOT_REFUSED, -1, RefusedTest::crowded, x -> x.auction(7, 1));
        refused("17 auction: all bid 0", NOT_REFUSED, -1, RefusedTest::midway, x -> x.auction(6, 0));
        refused("17 auction: all bid 0", NOT_REFUSED, -1, RefusedTest::midway, x -> x.auction(6, 1));
        refused("21 move: nobody has a yard", NOT_REFUSED, -1, EclipseSeats::new, x -> x.move(0));
        refused("21 move: nobody has a yard", NOT_REFUSED, -1, EclipseSeats::new, x -> x.move(1));
        refused("25 offer: no kind", NOT_REFUSED, -1, RefusedTest::crowded, x -> x.offer(0));
        refused("26 two: not so many", NOT_REFUSED, -5, RefusedTest::midway, x -> x.two(0, 1, 64));
    }

    private static void nothingIsChangedByThese() {
        unchanged("13 of", x -> x.of(0, 0) + x.of(0, 4));
        unchanged("14 yard", x -> x.yard(0, 0) + x.yard(7, 2));
        unchanged("15 sees", x -> x.sees(0, -1) + x.sees(0, 0) + x.sees(0, 7) + x.sees(2, 7));
        unchanged("16 gives", x -> x.gives(0, -1) + x.gives(0, 0) + x.gives(0, 7) + x.gives(2, 7));
        unchanged("17 auction", x -> x.auction(1, 0) + x.auction(1, 1) + x.auction(7, 0));
        unchanged("18 hurt", x -> x.hurt(0, 0) + x.hurt(0, 4) + x.hurt(2, 1));
        unchanged("19 best", x -> x.best(0, 0) + x.best(1, 1) + x.best(2, 0));
        unchanged("20 all", x -> x.all(-1) + x.all(0) + x.all(2));
        unchanged("21 move", x -> x.move(0) + x.move(1));
        unchanged("24 is", x -> x.is(0) + x.is(2));
        unchanged("25 offer", x -> x.offer(0) + x.offer(2));
        unchanged("26 two", x -> x.two(0, 1, -1) + x.two(2, 1, 0));
        unchanged("28 eclipses", x -> x.eclipses(999999, 60));
        unchanged("29 part", x -> x.part(0) + x.part(1));
        unchanged("32 status", x -> x.status(0) + x.status(1) + x.status(2));
        unchanged("33 count", x -> x.count(0) + x.count(6));
        unchanged("34 digest", x -> x.digest());
    }

    // Two seated bidders, one without; two steps, two notes, an image, a fraction, a text that can be read.
    private static EclipseSeats midway() {
        EclipseSeats x = new EclipseSeats();
        x.hill(2, 200);
        x.image(0);
        x.one(0, 100);
        x.one(1, 400);
        x.one(2, 500);
        x.sell(5);
        x.sell(0);
        x.note(0, 100, 0, 100);
        x.note(1, 100, 0, 100);
        x.clouds(3);
        Due.typeText(x, "hill 1;one 0 7;seat 0 4;");
        return x;
    }

    // Five seated bidders, six notes, 150 bytes, eight steps, two images.
    private static EclipseSeats crowded() {
        EclipseSeats x = new EclipseSeats();
        Due.readText(x, "hill 6;dark 23;heights 0 1 2 3 4 5 6 7;one 0 50;one 3 40;one 2 30;one 5 20;one 3 10;");
        x.image(1);
        for (int y = 0; y < 5; y++) {
            x.sell(y);
        }
        x.moves(0, 7);
        x.moves(1, 5);
        x.image(0);
        x.moves(0, 6);
        for (int n = 0; n < 6; n++) {
            x.note(n % 5, 200 + n, n, 300 + n);
        }
        x.clouds(9);
        String text = "hill 4;one 0 8;";
        Due.typeText(x, text + " ".repeat(145 - text.length()) + "dark ");
        return x;
    }

    private static EclipseSeats after(Due.Call calls) {
        EclipseSeats x = midway();
        Due.due("ahead of it two may be undone", x.count(5), 2);
        calls.on(x);
        return x;
    }

    private static void badEverywhere(String name, long answer, Due.Call call) {
        bad(name + " at first", answer, EclipseSeats::new, call);
        bad(name + " midway", answer, RefusedTest::midway, call);
        bad(name + " where all is full", answer, RefusedTest::crowded, call);
    }

    private static void bad(String name, long answer, Supplier<EclipseSeats> hill, Due.Call call) {
        refused(name, BAD, answer, hill, call);
    }

    private static void no(String name, Supplier<EclipseSeats> hill, Due.Call call) {
        refused(name, NO, -3, hill, call);
    }

    /** With a reason that is none of the three, an answer that STATUS does not count. */
    private static void refused(String name, int reason, long answer, Supplier<EclipseSeats> hill, Due.Call call) {
        EclipseSeats x = hill.get();
        EclipseSeats twin = hill.get();
        int[] before = {x.status(0), x.status(1), x.status(2)};
        Due.due(name, call.on(x), answer);
        for (int what = 0; what < 3; what++) {
            Due.due(name + ", status " + what, x.status(what), before[what] + (what == reason ? 1 : 0));
        }
        Due.due(name + ", once more", call.on(x), answer);
        for (int what = 0; what < 3; what++) {
            Due.due(name + ", status " + what, x.status(what), before[what] + (what == reason ? 2 : 0));
        }
        dueAlike(name, x, twin);
    }

    private static void unchanged(String name, Due.Call calls) {
        EclipseSeats x = midway();
        calls.on(x);
        Due.dueStatus(x, 0, 0, 0);
        dueAlike(name, x, midway());
    }

    /** What both answer from here on; it uses them up. */
    private static void dueAlike(String name, EclipseSeats x, EclipseSeats twin) {
        Due.due(name + ", digest", x.digest(), twin.digest());
        for (int p = 0; p < 5; p++) {
            Due.due(name + ", is " + p, x.is(p), twin.is(p));
            for (int what = 0; what < 5; what++) {
                Due.due(name + ", of " + p + " " + what, x.of(p, what), twin.of(p, what));
            }
        }
        dueAlikeUndone(name, x, twin);
        Due.due(name + ", read", x.read(), twin.read());
        Due.due(name + ", digest of what was read", x.digest(), twin.digest());
        Due.due(name + ", a byte more", x.type(';'), twin.type(';'));
        Due.due(name + ", read", x.read(), twin.read());
        for (int i = 0; i < 2; i++) {
            Due.due(name + ", from " + i, x.from(i), twin.from(i));
            Due.due(name + ", digest of image " + i, x.digest(), twin.digest());
            dueAlikeUndone(name + ", image " + i, x, twin);
        }
    }

    private static void dueAlikeUndone(String name, EclipseSeats x, EclipseSeats twin) {
        for (int i = 0; i < 9; i++) {
            Due.due(name + ", undone " + i, x.undo(), twin.undo());
            Due.due(name + ", digest of what was undone " + i, x.digest(), twin.digest());
        }
    }
}
