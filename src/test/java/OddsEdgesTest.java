import java.math.BigInteger;

/** The edges that 'Terms' names of notes, kinds that fit, pairs, clouds, eclipses, undoing, images, STATUS, digest. */
public final class OddsEdgesTest {
    private static final int ALL_KINDS = 63;

    public static void main(String[] args) {
        notesAreSix();
        isOfEdges();
        isOfOneAlone();
        offerOfLikeOnes();
        offerOfNoKind();
        offerOfTheLastYard();
        offerWhereWorthIsAlike();
        twoOfAllPairs();
        twoOfOneHillAfterAnother();
        twoOfNoPairs();
        twoOfTheSameYard();
        twoOnABareHill();
        cloudsInLowestTerms();
        cloudsOverNobody();
        eclipsesOfNone();
        eclipsesWrapAround();
        eclipsesOfManySeeds();
        eclipsesOfAllFive();
        undoEightAtMost();
        noneMayBeUndone();
        undoneAndDoneAnew();
        imagesAreTwo();
        imagesKeepNotTheRest();
        statusCountsAll();
        fractionStays();
        countsOfAll();
        digestWrapsAround();
        Due.end();
    }

    private static void notesAreSix() {
        EclipseSeats x = Due.told("hill 3;one 0 0;");
        Due.due("none to forget", x.forget(), 0);
        for (int i = 1; i <= 6; i++) {
            Due.due("how many notes", x.note(0, i, 0, i), i);
        }
        Due.due("a seventh", x.note(0, 7, 0, 7), -4);
        Due.due("plain, tall, a dog", x.is(0), 1 + 2 + 8);
        Due.due("six to forget", x.forget(), 6);
        Due.due("all are forgotten", x.is(0), ALL_KINDS);
        Due.due("none to forget", x.forget(), 0);
        Due.due("the first again", x.note(0, 240, 9, 500), 1);
        Due.dueStatus(x, 0, 0, 1);
    }

    private static void isOfEdges() {
        dueIs(0, 0, 0, ALL_KINDS);
        dueIs(0, 9, 0, ALL_KINDS);
        dueIs(0, 9, 180, 0);
        dueIs(1, 0, 0, 4 + 16 + 32);
        dueIs(1, 0, 1, 1 + 2 + 8);
        dueIs(1, 9, 181, 8);
        dueIs(2, 0, 3, 32);
        dueIs(3, 0, 3, 1 + 2 + 8 + 32);
        dueIs(2, 1, 1, 4);
        dueIs(199, 0, 0, 16);
        dueIs(199, 0, 199, 1 + 2 + 8);
        dueIs(200, 0, 200, 1 + 2 + 8 + 16);
        dueIs(200, 0, 0, 0);
        dueIs(240, 9, 420, 8);
        dueIs(240, 6, 360, 8 + 32);
        dueIs(240, 9, 120, 4);
        dueIs(240, 9, 500, 0);
    }

    private static void dueIs(int s, int h, int w, int kinds) {
        EclipseSeats x = Due.told("hill 3;one 0 0;");
        x.note(0, s, h, w);
        Due.due(s + " seconds on " + h + " worth " + w, x.is(0), kinds);
    }

    private static void isOfOneAlone() {
        EclipseSeats x = Due.told("hill 3;one 0 0;one 1 0;one 2 0;one 3 0;one 4 0;");
        x.note(0, 240, 9, 500);
        x.note(4, 2, 0, 3);
        int[] kinds = {0, ALL_KINDS, ALL_KINDS, ALL_KINDS, 32};
        for (int p = 0; p < 5; p++) {
            Due.due("of " + p + " alone", x.is(p), kinds[p]);
        }
    }

    private static void offerOfLikeOnes() {
        EclipseSeats x = Due.told("hill 3;dark 0;one 0 0;");
        Due.due("nothing tells them apart: the least", x.offer(0), 0);
        x.note(0, 2, 0, 3);
        Due.due("one kind: the least", x.offer(0), 0);
        x = Due.told("hill 3;one 0 0;");
        x.note(0, 100, 0, 100);
        Due.due("plain, tall, a dog: by a height", x.offer(0), 1);
    }

    private static void offerOfNoKind() {
        EclipseSeats x = Due.told("hill 3;one 0 0;one 0 0;");
        x.note(0, 0, 0, 1);
        Due.due("no kind", x.offer(0), -1);
        Due.due("of another all kinds", x.offer(1), 1);
        x.forget();
        Due.due("all kinds again", x.offer(0), 1);
        Due.dueStatus(x, 0, 0, 0);
    }

    private static void offerOfTheLastYard() {
        EclipseSeats x = Due.told("hill 7;one 0 0;");
        x.track(7, 9);
        Due.due("dark in the last yard alone", x.offer(0), 71);
        x.track(7, 10);
        Due.due("one second in the last but one tells less", x.offer(0), 71);
        x.track(7, 18);
        Due.due("nine in the last but one", x.offer(0), 61);
    }

    private static void offerWhereWorthIsAlike() {
        // To a dog and a school 40 seconds on 1 are worth 60 alike, and 3 on 0 are worth 3; 4 on 0 are worth 4 and 6.
        EclipseSeats x = Due.told("hill 0;one 0 0;");
        x.note(0, 40, 1, 60);
        Due.due("a dog or a school", x.is(0), 8 + 32);
        x.track(0, 3);
        Due.due("alike on 0", x.offer(0), 1);
        x.track(0, 4);
        Due.due("unlike on 0", x.offer(0), 0);
        x.forget();
        x.track(0, 40);
        Due.due("two and two of all kinds", x.offer(0), 1);
    }

    private static void twoOfAllPairs() {
        EclipseSeats x = Due.told("hill 3;dark 0;one 0 0;one 5 0;");
        Due.due("nobody would get more: all pairs", x.two(0, 1, -1), 64);
        for (int k = 0; k < 64; k++) {
            Due.due("pair " + k, x.two(0, 1, k), k);
        }
        Due.due("not so many", x.two(0, 1, 64), -5);
        Due.due("not so many", x.two(1, 0, 65), -5);
        Due.dueStatus(x, 0, 0, 0);
    }

    private static void twoOfOneHillAfterAnother() {
        EclipseSeats x = Due.told("hill 3;one 3 0;one 3 0;");
        Due.due("two dogs", x.two(0, 1, -1), 4);
        x.track(3, 0);
        Due.due("without dark all pairs", x.two(0, 1, -1), 64);
        x.track(0, 240);
        Due.due("two dogs by the first yard", x.two(0, 1, -1), 2);
    }

    private static void twoOfNoPairs() {
        EclipseSeats x = Due.told("hill 6;heights 2 1 1 2 7 4 3 1;one 2 0;one 2 0;");
        x.track(6, 95);
        Due.due("no pair rests", x.two(0, 1, -1), 0);
        Due.due("no first one", x.two(0, 1, 0), -5);
        Due.dueStatus(x, 0, 0, 0);
    }

    private static void twoOfTheSameYard() {
        // Whoever is behind the first yard sees nothing, so that its like is as good as any.
        EclipseSeats x = Due.told("hill 0;one 0 0;one 0 0;");
        Due.due("pairs", x.two(0, 1, -1), 15);
        Due.due("both in the first yard", x.two(0, 1, 0), 0);
        Due.due("the last pair", x.two(0, 1, 14), 56);
        Due.due("one more", x.two(0, 1, 15), -5);
        x = Due.told("hill 0;one 3 0;one 3 0;");
        Due.due("two dogs", x.two(0, 1, -1), 2);
        Due.due("not the same yard", x.two(0, 1, 0), 1);
        Due.due("nor here", x.two(0, 1, 1), 8);
    }

    private static void twoOnABareHill() {
        EclipseSeats x = Due.told("hill 0;one 3 0;one 3 0;one 4 0;seat 2 0;seat 0 5;");
        Due.due("all others nowhere", x.two(0, 1, -1), 2);
        Due.due("the first pair", x.two(0, 1, 0), 1);
        Due.due("purses are not asked", x.two(1, 0, 1), 8);
        Due.due("seats stay", x.of(0, 3), 5);
    }

    private static void cloudsInLowestTerms() {
        EclipseSeats x = Due.told("hill 3;one 0 50;seat 0 3;");
        dueClouds(x, 0, 240, 1);
        dueClouds(x, 1, 216, 1);
        dueClouds(x, 9, 24, 1);
        dueClouds(x, 10, 0, 1);
        x.track(3, 1);
        int[][] parts = {{1, 1}, {9, 10}, {4, 5}, {7, 10}, {3, 5}, {1, 2}, {2, 5}, {3, 10}, {1, 5}, {1, 10}, {0, 1}};
        for (int c = 0; c <= 10; c++) {
            dueClouds(x, c, parts[c][0], parts[c][1]);
        }
        x.track(3, 15);
        dueClouds(x, 9, 3, 2);
        x = Due.told("hill 3;one 3 0;one 3 0;one 3 0;one 3 0;one 3 0;seat 0 1;seat 1 2;seat 2 3;seat 3 4;seat 4 5;");
        dueClouds(x, 0, 1146, 1);
        dueClouds(x, 1, 5157, 5);
    }

    private static void cloudsOverNobody() {
        EclipseSeats x = new EclipseSeats();
        dueClouds(x, 5, 0, 1);
        x.one(0, 500);
        dueClouds(x, 5, 0, 1);
        // A cloud over the one in front doesn't take its head away.
        x = Due.told("hill 3;one 0 50;one 0 50;seat 0 3;seat 1 4;");
        dueClouds(x, 5, 120, 1);
    }

    private static void dueClouds(EclipseSeats x, int c, int above, int below) {
        Due.due("clouds " + c, x.clouds(c), 1);
        Due.due("above by " + c, x.part(0), above);
        Due.due("below by " + c, x.part(1), below);
    }

    private static void eclipsesOfNone() {
        EclipseSeats x = new EclipseSeats();
        Due.due("nobody is there", x.eclipses(999999, 60), 0);
        x.one(0, 500);
        Due.due("nobody has a yard", x.eclipses(999999, 60), 0);
        x.sell(3);
        Due.due("no eclipses", x.eclipses(999999, 0), 0);
        Due.due("no eclipses", x.eclipses(0, 0), 0);
        x.track(0, 0);
        Due.due("the track and the dark are not asked", x.eclipses(1, 2), 88 - 27 + 118 - 27);
        Due.due("and stay", x.yard(0, 1), 0);
    }

    private static void eclipsesWrapAround() {
        int[] seeds = {0, 1, 2, 500000, 999998, 999999};
        int[] many = {1, 2, 3, 59, 60};
        for (int y = 0; y < 8; y++) {
            EclipseSeats x = Due.told("hill 3;one 0 50;one 0 50;seat 0 " + y + ";");
            for (int seed : seeds) {
                for (int n : many) {
                    Due.due("eclipses " + seed + ", " + n + " in " + y, x.eclipses(seed, n), seenUnder(seed, n, y));
                }
            }
        }
    }

    private static void eclipsesOfManySeeds() {
        EclipseSeats x = Due.told("hill 3;one 0 50;one 0 50;seat 0 4;seat 1 6;");
        for (int seed = 0; seed <= 999999; seed += 3001) {
            Due.due("eclipses " + seed + ", who is hidden sees nothing", x.eclipses(seed, 60), seenUnder(seed, 60, 4));
        }
    }

    private static void eclipsesOfAllFive() {
        EclipseSeats x = Due.told("hill 3;one 3 0;one 3 0;one 3 0;one 3 0;one 3 0;"
                + "seat 0 0;seat 1 7;seat 2 2;seat 3 5;seat 4 3;");
        int[] yards = {0, 7, 2, 5, 3};
        int due = 0;
        for (int y : yards) {
            due += seenUnder(999999, 60, y);
        }
        Due.due("eclipses that five see", x.eclipses(999999, 60), due);
    }

    private static int seenUnder(int seed, int n, int y) {
        BigInteger x = BigInteger.valueOf(seed);
        int seen = 0;
        for (int i = 0; i < n; i++) {
            x = x.multiply(BigInteger.valueOf(1103515245)).add(BigInteger.valueOf(12345)).mod(BigInteger.TWO.pow(31));
            int track = x.divide(BigInteger.valueOf(65536)).mod(BigInteger.valueOf(8)).intValue();
            int dark = x.divide(BigInteger.valueOf(1048576)).mod(BigInteger.valueOf(241)).intValue();
            int here = dark - 9 * (y > track ? y - track : track - y);
            seen += here > 0 ? here : 0;
        }
        return seen;
    }

    private static void undoEightAtMost() {
        for (int done = 7; done <= 10; done++) {
            EclipseSeats x = Due.told("hill 3;one 3 50;seat 0 0;");
            for (int i = 1; i <= done; i++) {
                Due.due("goes on", x.moves(0, i % 8), (i - 1) % 8);
            }
            int may = done < 8 ? done : 8;
            Due.due("may be undone of " + done, x.count(5), may);
            for (int i = 1; i <= may; i++) {
                Due.due("undone of " + done, x.undo(), 7);
                Due.due("where it is then", x.of(0, 3), (done - i) % 8);
                Due.due("still may be", x.count(5), may - i);
            }
            Due.due("none more of " + done, x.undo(), -3);
            Due.dueStatus(x, 0, 1, 0);
        }
    }

    private static void noneMayBeUndone() {
        Due.Call[] calls = {x -> x.one(0, 0), x -> x.height(7, 0), x -> x.track(3, 240), x -> x.hill(3, 240),
            x -> Due.readText(x, "hill 3;one 3 50;seat 0 0;")};
        for (Due.Call call : calls) {
            EclipseSeats x = Due.told("hill 3;one 3 50;seat 0 0;");
            x.moves(0, 7);
            x.moves(0, 6);
            call.on(x);
            Due.due("none may be undone", x.count(5), 0);
            Due.due("undo", x.undo(), -3);
            Due.due("none still", x.count(5), 0);
        }
    }

    private static void undoneAndDoneAnew() {
        EclipseSeats x = Due.told("hill 3;one 3 50;seat 0 0;");
        for (int i = 1; i <= 8; i++) {
            x.moves(0, i % 8);
        }
        x.undo();
        x.undo();
        Due.due("done anew", x.leave(0), 6);
        Due.due("seven may be", x.count(5), 7);
        Due.due("sold anew", x.sell(7), 0);
        Due.due("left anew", x.leave(0), 7);
        Due.due("eight may be", x.count(5), 8);
        int[] seats = {7, -1, 6, 5, 4, 3, 2, 1};
        for (int seat : seats) {
            Due.due("free then", x.undo(), seat == -1 ? 8 : 7);
            Due.due("seat then", x.of(0, 3), seat);
        }
        Due.due("no more", x.undo(), -3);
        x.moves(0, 5);
        x.note(0, 0, 0, 0);
        x.forget();
        x.clouds(5);
        x.type('a');
        x.read();
        x.clear();
        x.image(0);
        Due.due("notes, clouds, a text, an image leave it", x.undo(), 7);
    }

    private static void imagesAreTwo() {
        EclipseSeats x = Due.told("hill 3;one 3 50;");
        Due.due("kept", x.image(0), 1);
        Due.due("the other was not kept", x.from(1), -3);
        x.sell(0);
        Due.due("kept", x.image(1), 1);
        x.leave(0);
        Due.due("the first", x.from(0), 1);
        Due.due("nobody had a yard", x.of(0, 3), -1);
        Due.due("nothing to undo", x.undo(), -3);
        Due.due("the second", x.from(1), 1);
        Due.due("its yard", x.of(0, 3), 0);
        x.moves(0, 5);
        x.image(0);
        Due.due("kept anew", x.from(0), 1);
        Due.due("its yard", x.of(0, 3), 5);
        Due.due("two may be undone", x.count(5), 2);
        Due.due("the second again", x.from(1), 1);
        Due.due("it stays as it was kept", x.of(0, 3), 0);
        Due.due("what may be undone", x.undo(), 8);
        Due.due("the second again", x.from(1), 1);
        Due.due("what may be undone", x.undo(), 8);
        x.hill(0, 0);
        Due.due("behind a hill", x.from(1), 1);
        Due.due("its yard", x.of(0, 3), 0);
        Due.dueStatus(x, 0, 2, 0);
    }

    private static void imagesKeepNotTheRest() {
        EclipseSeats x = Due.told("hill 3;one 3 50;seat 0 3;");
        x.clouds(5);
        x.image(0);
        x.clouds(9);
        x.type(';');
        x.undo();
        x.status(5);
        int bytes = x.count(6);
        Due.due("from", x.from(0), 1);
        Due.due("the fraction stays", x.part(0), 24);
        Due.due("the text stays", x.count(6), bytes);
        Due.dueStatus(x, 1, 1, 0);
        x.image(1);
        x.from(0);
        Due.due("an image is no part of an image", x.from(1), 1);
    }

    private static void statusCountsAll() {
        EclipseSeats x = new EclipseSeats();
        for (int i = 0; i < 167; i++) {
            x.status(3);
            x.undo();
            x.type(i < 150 ? 'a' : 'b');
        }
        Due.dueStatus(x, 167, 167, 17);
        x.hill(0, 0);
        Due.due("a hill leaves it", x.status(0), 167);
        Due.due("another what", x.status(-1), -1);
        Due.due("counts as BAD", x.status(0), 168);
    }

    private static void fractionStays() {
        EclipseSeats x = Due.told("hill 3;dark 1;one 0 50;seat 0 3;");
        x.clouds(3);
        Due.due("above", x.part(0), 7);
        x.leave(0);
        x.hill(0, 0);
        x.track(1, 1);
        x.clouds(11);
        Due.readText(x, "hill 1;");
        Due.due("above still", x.part(0), 7);
        Due.due("below still", x.part(1), 1);
        x.clouds(3);
        Due.due("nobody is there", x.part(0), 0);
        Due.due("nobody is there", x.part(1), 1);
    }

    private static void countsOfAll() {
        EclipseSeats x = Due.told("hill 3;one 3 0;one 3 0;one 3 0;one 3 0;one 3 0;seat 0 1;seat 1 2;seat 2 3;seat 3 4;");
        Due.due("bidders", x.count(0), 5);
        Due.due("free yards", x.count(1), 4);
        Due.due("seconds that all see", x.count(2), 222 + 231 + 240 + 231);
        Due.due("paid for told seats", x.count(3), 0);
        x = Due.told("hill 3;one 0 50;one 0 50;one 0 50;seat 0 3;seat 1 4;");
        Due.due("one is hidden", x.count(2), 240);
        x.leave(0);
        Due.due("it sees then", x.count(2), 231);
        x.leave(1);
        Due.due("nobody sees", x.count(2), 0);
        Due.due("all yards are free", x.count(1), 8);
    }

    private static void digestWrapsAround() {
        EclipseSeats x = Due.told("hill 1;dark 20;heights 9 8 7 6 5 4 3 2;one 0 50;one 1 49;one 2 48;one 3 47;one 5 46;");
        x.sell(0);
        x.sell(7);
        for (int n = 0; n < 6; n++) {
            x.note(n % 5, 40 * n, n, 100 * n);
        }
        x.clouds(7);
        BigInteger h = BigInteger.valueOf(1327);
        for (int what = 0; what < 7; what++) {
            h = next(h, x.count(what));
        }
        h = next(next(h, 1), 200);
        for (int y = 0; y < 8; y++) {
            h = next(h, 9 - y);
        }
        for (int p = 0; p < 5; p++) {
            for (int what = 0; what < 4; what++) {
                h = next(h, x.of(p, what));
            }
        }
        for (int n = 0; n < 6; n++) {
            h = next(next(next(next(h, n % 5), 40 * n), n), 100 * n);
        }
        h = next(next(h, x.part(0)), x.part(1));
        Due.due("digest", x.digest(), h.longValue());
        Due.due("it is more than a long holds", h.bitLength() > 64 ? 1 : 0, 1);
    }

    private static BigInteger next(BigInteger h, long v) {
        return h.multiply(BigInteger.valueOf(31)).add(BigInteger.valueOf(v));
    }
}
