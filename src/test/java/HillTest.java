/** Promises 1 to 8: a new object, hill, track, height, one, type, clear, read. */
public final class HillTest {
    public static void main(String[] args) {
        promise1();
        promise2();
        promise3();
        promise4();
        promise5();
        promise6();
        promise7();
        promise8();
        promise8Faults();
        Due.end();
    }

    private static void promise1() {
        EclipseSeats x = new EclipseSeats();
        int[] counts = {0, 8, 0, 0, 0, 0, 0};
        for (int what = 0; what < counts.length; what++) {
            Due.due("1 count " + what, x.count(what), counts[what]);
        }
        int[] dark = {213, 222, 231, 240, 231, 222, 213, 204};
        for (int y = 0; y < 8; y++) {
            Due.due("1 height of " + y, x.yard(y, 0), 0);
            Due.due("1 dark in " + y, x.yard(y, 1), dark[y]);
            Due.due("1 who is in " + y, x.yard(y, 2), -1);
        }
        Due.due("1 above", x.part(0), 0);
        Due.due("1 below", x.part(1), 1);
        Due.due("1 image 0", x.from(0), -3);
        Due.due("1 image 1", x.from(1), -3);
        Due.dueStatus(x, 0, 2, 0);
    }

    private static void promise2() {
        EclipseSeats x = new EclipseSeats();
        x.one(0, 500);
        x.one(1, 400);
        x.height(4, 4);
        x.sell(4);
        x.note(0, 1, 1, 1);
        x.clouds(5);
        x.image(0);
        x.type('a');
        long above = x.part(0);
        Due.due("2 BAD track", x.hill(8, 0), -2);
        Due.due("2 BAD track below", x.hill(-1, 0), -2);
        Due.due("2 BAD dark", x.hill(0, 241), -2);
        Due.due("2 BAD dark below", x.hill(0, -1), -2);
        Due.due("2 a BAD one changes nothing", x.count(0), 2);
        Due.due("2 how many there were", x.hill(7, 100), 2);
        Due.due("2 none are left", x.hill(7, 100), 0);
        int[] counts = {0, 8, 0, 0, 0, 0, 1};
        for (int what = 0; what < counts.length; what++) {
            Due.due("2 count " + what, x.count(what), counts[what]);
        }
        Due.due("2 height", x.yard(4, 0), 0);
        Due.due("2 dark under the track", x.yard(7, 1), 100);
        Due.due("2 dark far off", x.yard(0, 1), 37);
        Due.due("2 the fraction stays", x.part(0), above);
        Due.due("2 images stay", x.from(0), 1);
        Due.due("2 as it was", x.count(0), 2);
        Due.dueStatus(x, 4, 0, 0);
        Due.due("2 edges", x.hill(0, 0), 2);
        Due.due("2 edges", x.hill(7, 240), 0);
    }

    private static void promise3() {
        EclipseSeats x = new EclipseSeats();
        x.one(0, 500);
        x.sell(3);
        Due.due("3 may be undone", x.count(5), 1);
        Due.due("3 BAD", x.track(8, 0), -2);
        Due.due("3 BAD", x.track(-1, 0), -2);
        Due.due("3 BAD", x.track(0, 241), -2);
        Due.due("3 BAD", x.track(0, -1), -2);
        Due.due("3 may still be undone", x.count(5), 1);
        Due.due("3 track", x.track(0, 20), 1);
        Due.due("3 none may be undone", x.count(5), 0);
        int[] dark = {20, 11, 2, 0, 0, 0, 0, 0};
        for (int y = 0; y < 8; y++) {
            Due.due("3 dark in " + y, x.yard(y, 1), dark[y]);
        }
        Due.due("3 seats stay", x.of(0, 3), 3);
        Due.dueStatus(x, 4, 0, 0);
    }

    private static void promise4() {
        EclipseSeats x = new EclipseSeats();
        x.one(0, 500);
        x.sell(3);
        Due.due("4 BAD", x.height(8, 0), -2);
        Due.due("4 BAD", x.height(-1, 0), -2);
        Due.due("4 BAD", x.height(0, 10), -2);
        Due.due("4 BAD", x.height(0, -1), -2);
        Due.due("4 may be undone", x.count(5), 1);
        Due.due("4 what it was", x.height(7, 9), 0);
        Due.due("4 none may be undone", x.count(5), 0);
        Due.due("4 what it was", x.height(7, 3), 9);
        Due.due("4 what it is", x.yard(7, 0), 3);
        Due.due("4 the next one", x.yard(6, 0), 0);
        Due.dueStatus(x, 4, 0, 0);
    }

    private static void promise5() {
        EclipseSeats x = new EclipseSeats();
        Due.due("5 BAD", x.one(6, 0), -2);
        Due.due("5 BAD", x.one(-1, 0), -2);
        Due.due("5 BAD", x.one(0, 501), -2);
        Due.due("5 BAD", x.one(0, -1), -2);
        Due.due("5 first", x.one(0, 500), 0);
        x.sell(0);
        Due.due("5 may be undone", x.count(5), 1);
        Due.due("5 second", x.one(5, 0), 1);
        Due.due("5 none may be undone", x.count(5), 0);
        x.leave(0);
        for (int p = 2; p < 5; p++) {
            Due.due("5 next", x.one(p, 10 * p), p);
        }
        Due.due("5 FULL", x.one(0, 0), -4);
        Due.due("5 BAD is ahead of FULL", x.one(6, 0), -2);
        Due.due("5 kind", x.of(4, 0), 4);
        Due.due("5 purse", x.of(4, 1), 40);
        Due.due("5 paid", x.of(4, 2), 0);
        Due.due("5 yard", x.of(4, 3), -1);
        Due.dueStatus(x, 5, 0, 1);
    }

    private static void promise6() {
        EclipseSeats x = new EclipseSeats();
        Due.due("6 BAD", x.type(128), -2);
        Due.due("6 BAD", x.type(-1), -2);
        for (int i = 1; i <= 150; i++) {
            Due.due("6 byte " + i, x.type(i % 128), i);
        }
        Due.due("6 FULL", x.type(0), -4);
        Due.due("6 BAD is ahead of FULL", x.type(128), -2);
        Due.due("6 count", x.count(6), 150);
        Due.dueStatus(x, 3, 0, 1);
    }

    private static void promise7() {
        EclipseSeats x = new EclipseSeats();
        Due.due("7 empty", x.clear(), 0);
        x.type('a');
        x.type('b');
        Due.due("7 two", x.clear(), 2);
        Due.due("7 empty again", x.count(6), 0);
        Due.due("7 from the front", x.type('c'), 1);
    }

    private static void promise8() {
        EclipseSeats x = new EclipseSeats();
        x.one(3, 70);
        x.sell(1);
        x.note(0, 0, 0, 0);
        x.clouds(3);
        x.image(1);
        long above = x.part(0);
        String text = " hill 07 ; dark 5;heights 9 8 7 6 5 4 3 02;one 5 50;one4 0 ;seat 1 7;seat 0 0;  ";
        Due.due("8 items", Due.readText(x, text), 7);
        int[] counts = {2, 6, 0, 0, 0, 0, text.length()};
        for (int what = 0; what < counts.length; what++) {
            if (what != 2) {
                Due.due("8 count " + what, x.count(what), counts[what]);
            }
        }
        for (int y = 0; y < 8; y++) {
            Due.due("8 height of " + y, x.yard(y, 0), 9 - y);
        }
        Due.due("8 track and dark", x.yard(7, 1), 50);
        Due.due("8 kind", x.of(0, 0), 5);
        Due.due("8 purse", x.of(0, 1), 500);
        Due.due("8 paid", x.of(0, 2), 0);
        Due.due("8 yard", x.of(0, 3), 0);
        Due.due("8 kind", x.of(1, 0), 4);
        Due.due("8 purse", x.of(1, 1), 0);
        Due.due("8 yard", x.of(1, 3), 7);
        Due.due("8 the fraction stays", x.part(0), above);
        Due.due("8 images stay", x.from(1), 1);
        Due.due("8 image", x.of(0, 0), 3);
        Due.due("8 read anew", Due.readText(x, "hill 2;"), 1);
        Due.due("8 dark at first", x.yard(2, 1), 240);
        Due.due("8 heights at first", x.yard(0, 0), 0);
        Due.due("8 no bidders", x.count(0), 0);
        Due.due("8 dark twice", Due.readText(x, "hill 2;dark 1;dark 2;heights 1 1 1 1 1 1 1 1;heights 2 2 2 2 2 2 2 2;"), 5);
        Due.due("8 the last dark", x.yard(2, 1), 20);
        Due.due("8 the last heights", x.yard(2, 0), 2);
        Due.due("8 five", Due.readText(x, "hill 0;one 0 1;one 1 2;one 2 3;one 3 4;one 4 5;"), 6);
        Due.due("8 nothing between", Due.readText(x, "hill0;dark24;one0 50;seat0 7;"), 4);
    }

    private static void promise8Faults() {
        fault("", 0);
        fault("   ", 3);
        fault("hill", 4);
        fault("hil", 0);
        fault("hills 0;", 0);
        fault("hillz 0;", 0);
        fault("hilla 0;", 0);
        fault("hill`0;", 4);
        fault("hill{0;", 4);
        fault("hill/0;", 4);
        fault("hill:0;", 4);
        fault("Hill 0;", 0);
        fault("hill 0", 6);
        fault("hill  8;", 6);
        fault("hill 10;", 5);
        fault("hill 000;", 5);
        fault("hill 001", 5);
        fault("hill -1;", 5);
        fault("hill;", 4);
        fault("hill hill;", 5);
        fault("hill 0 0;", 7);
        fault("hill 0;;", 7);
        fault("; hill 0;", 0);
        fault(" dark 1;hill 0;", 1);
        fault("5;", 0);
        fault("hill 0;hill 0;", 7);
        fault("hill 0;\n", 7);
        fault("hill\t0;", 4);
        fault("hill 0;dark 25;", 12);
        fault("hill 0;dark 1;dark", 18);
        fault("hill 0;sea", 7);
        fault("hill 0;heights 0 0 0 0 0 0 0;", 28);
        fault("hill 0;heights 0 0 0 0 0 0 0 0 0;", 31);
        fault("hill 0;heights 0 10 0 0 0 0 0 0;", 17);
        fault("hill 0;one 6 0;", 11);
        fault("hill 0;one 0 51;", 13);
        fault("hill 0;one 0;", 12);
        fault("hill 0;one 0 500;", 13);
        fault("hill 0;seat 0 0;", 12);
        fault("hill 0;one 0 0;seat 1 0;", 20);
        fault("hill 0;one 0 0;seat 0 8;", 22);
        fault("hill 0;one 0 0;seat 0 1;seat 0 2;", 29);
        fault("hill 0;one 0 0;one 0 0;seat 0 1;seat 1 1;", 39);
        fault("hill 0;one 0 0;one 0 0;one 0 0;one 0 0;one 0 0;one", 47);
        fault("hill 0;one 0 0;seat 0", 21);
    }

    private static void fault(String text, int place) {
        EclipseSeats x = new EclipseSeats();
        x.one(3, 70);
        x.sell(1);
        Due.typeText(x, text);
        long before = x.digest();
        Due.due("8 fault in \"" + text + "\"", x.read(), -10 - place);
        Due.due("8 all stays by \"" + text + "\"", x.digest(), before);
        Due.dueStatus(x, 0, 0, 0);
    }
}
