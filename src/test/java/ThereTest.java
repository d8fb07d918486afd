/** Promises 29 to 34: part, image, from, status, count, digest; and the constants. */
public final class ThereTest {
    public static void main(String[] args) {
        promise29();
        promise30And31();
        promise31Whole();
        promise32();
        promise33();
        promise34();
        Due.due("NONE", EclipseSeats.NONE, -1);
        Due.due("BAD", EclipseSeats.BAD, -2);
        Due.due("NO", EclipseSeats.NO, -3);
        Due.due("FULL", EclipseSeats.FULL, -4);
        Due.end();
    }

    private static void promise29() {
        EclipseSeats x = new EclipseSeats();
        Due.due("29 above", x.part(0), 0);
        Due.due("29 below", x.part(1), 1);
        Due.due("29 BAD", x.part(2), -2);
        Due.due("29 BAD", x.part(-1), -2);
        x.one(0, 1);
        x.sell(2);
        x.clouds(7);
        Due.due("29 above", x.part(0), 693);
        Due.due("29 below", x.part(1), 10);
        Due.dueStatus(x, 2, 0, 0);
    }

    private static void promise30And31() {
        EclipseSeats x = new EclipseSeats();
        x.one(1, 300);
        x.one(0, 200);
        x.height(5, 5);
        x.sell(2);
        x.moves(0, 4);
        x.note(1, 2, 3, 4);
        Due.due("30 BAD", x.image(2), -2);
        Due.due("30 BAD", x.image(-1), -2);
        Due.due("31 none", x.from(1), -3);
        long then = x.digest();
        Due.due("30 kept", x.image(1), 1);
        Due.due("30 an image changes nothing", x.digest(), then);
        x.undo();
        x.undo();
        x.height(5, 0);
        x.track(0, 0);
        x.one(3, 3);
        x.forget();
        Due.due("30 another", x.image(0), 1);
        x.hill(7, 7);
        Due.due("31 BAD", x.from(2), -2);
        Due.due("31 BAD", x.from(-1), -2);
        Due.due("31 from", x.from(1), 1);
        Due.due("31 as it was", x.digest(), then);
        Due.due("31 what may be undone", x.undo(), 7);
        Due.due("31 undone", x.of(0, 3), 2);
        Due.due("31 once more", x.undo(), 8);
        Due.due("31 purse", x.of(0, 1), 300);
        Due.due("31 again from it", x.from(1), 1);
        Due.due("31 it is as it was kept", x.digest(), then);
        Due.due("31 the other", x.from(0), 1);
        Due.due("31 the other's bidders", x.count(0), 3);
        x.type('a');
        x.clouds(10);
        x.from(1);
        Due.due("31 the text stays", x.count(6), 1);
        x.from(1);
        x.clouds(1);
        long above = x.part(0);
        x.hill(0, 0);
        x.from(0);
        Due.due("31 the fraction stays", x.part(0), above);
        Due.dueStatus(x, 4, 1, 0);
    }

    private static void promise31Whole() {
        EclipseSeats x = new EclipseSeats();
        // Each yard is as high as a plain head before it, so that all five can be sold one.
        Due.readText(x, "hill 1;dark 20;heights 2 3 4 5 6 7 8 9;one 0 50;one 3 49;one 2 48;one 3 47;one 5 46;");
        int[] seats = {0, 5, 2, 7, 4};
        for (int y : seats) {
            x.sell(y);
        }
        for (int p = 0; p < 3; p++) {
            x.leave(p);
        }
        for (int n = 0; n < 6; n++) {
            x.note(n % 5, 30 * n, n, 40 * n);
        }
        Due.due("31 eight may be undone", x.count(5), 8);
        long then = x.digest();
        long[] undone = new long[8];
        x.image(0);
        for (int i = 0; i < 8; i++) {
            x.undo();
            undone[i] = x.digest();
        }
        x.hill(0, 240);
        for (int p = 0; p < 5; p++) {
            x.one(5 - p, 500 - p);
        }
        for (int n = 0; n < 6; n++) {
            x.note(0, 240 - n, 9, 500 - n);
        }
        for (int i = 0; i < 12; i++) {
            x.leave(x.sell(i % 8));
        }
        Due.due("31 other things may be undone", x.count(5), 8);
        x.from(0);
        Due.due("31 all is as it was", x.digest(), then);
        for (int i = 0; i < 8; i++) {
            x.undo();
            Due.due("31 and all that was undone", x.digest(), undone[i]);
        }
        Due.due("31 and no more", x.undo(), -3);
    }

    private static void promise32() {
        EclipseSeats x = new EclipseSeats();
        Due.dueStatus(x, 0, 0, 0);
        Due.due("32 another", x.status(3), -1);
        Due.due("32 another", x.status(-1), -1);
        x.undo();
        for (int i = 0; i < 8; i++) {
            x.one(0, 0);
        }
        x.two(0, 1, 64);
        x.read();
        x.auction(0, 0);
        x.all(9);
        x.best(9, 0);
        x.of(9, 0);
        x.yard(9, 0);
        x.two(9, 0, 0);
        Due.dueStatus(x, 7, 1, 3);
    }

    private static void promise33() {
        EclipseSeats x = new EclipseSeats();
        Due.readText(x, "hill 3;one 0 30;one 1 20;one 3 10;");
        x.sell(3);
        x.sell(2);
        x.note(0, 0, 0, 0);
        int[] counts = {3, 6, 231, 300, 1, 2, 34};
        for (int what = 0; what < counts.length; what++) {
            Due.due("33 count " + what, x.count(what), counts[what]);
        }
        Due.due("33 BAD", x.count(7), -2);
        Due.due("33 BAD", x.count(-1), -2);
        Due.dueStatus(x, 2, 0, 0);
    }

    private static void promise34() {
        EclipseSeats x = new EclipseSeats();
        Due.due("34 at first", x.digest(), hash(0, 8, 0, 0, 0, 0, 0, 3, 240, 0, 0, 0, 0, 0, 0, 0, 0, 0, 1));
        x.one(0, 300);
        x.one(2, 500);
        x.height(7, 9);
        x.sell(3);
        x.note(1, 2, 3, 4);
        x.note(0, 5, 6, 7);
        x.clouds(5);
        x.type(';');
        Due.due("34 digest", x.digest(), hash(2, 7, 240, 120, 2, 1, 1, 3, 240, 0, 0, 0, 0, 0, 0, 0, 9,
                0, 180, 120, 3, 2, 500, 0, -1, 1, 2, 3, 4, 0, 5, 6, 7, 120, 1));
        x.status(9);
        Due.due("34 status is not in it", x.digest(), hash(2, 7, 240, 120, 2, 1, 1, 3, 240, 0, 0, 0, 0, 0, 0, 0, 9,
                0, 180, 120, 3, 2, 500, 0, -1, 1, 2, 3, 4, 0, 5, 6, 7, 120, 1));
    }

    private static long hash(int... values) {
        long h = 1327;
        for (int v : values) {
            h = 31 * h + v;
        }
        return h;
    }
}
