/** Promises 22 to 28: note, forget, is, offer, two, clouds, eclipses. */
public final class IsTest {
    public static void main(String[] args) {
        promise22();
        promise23();
        promise24();
        promise25();
        promise26();
        promise27();
        promise28();
        Due.end();
    }

    private static void promise22() {
        EclipseSeats x = new EclipseSeats();
        Due.due("22 nobody", x.note(0, 0, 0, 0), -2);
        x.one(0, 0);
        Due.due("22 BAD", x.note(-1, 0, 0, 0), -2);
        Due.due("22 BAD", x.note(1, 0, 0, 0), -2);
        Due.due("22 BAD", x.note(0, 241, 0, 0), -2);
        Due.due("22 BAD", x.note(0, -1, 0, 0), -2);
        Due.due("22 BAD", x.note(0, 0, 10, 0), -2);
        Due.due("22 BAD", x.note(0, 0, -1, 0), -2);
        Due.due("22 BAD", x.note(0, 0, 0, 501), -2);
        Due.due("22 BAD", x.note(0, 0, 0, -1), -2);
        for (int i = 1; i <= 6; i++) {
            Due.due("22 how many", x.note(0, 240, 9, 500), i);
        }
        Due.due("22 FULL", x.note(0, 0, 0, 0), -4);
        Due.due("22 BAD is ahead of FULL", x.note(1, 0, 0, 0), -2);
        Due.due("22 six", x.count(4), 6);
        Due.dueStatus(x, 10, 0, 1);
    }

    private static void promise23() {
        EclipseSeats x = new EclipseSeats();
        Due.due("23 none", x.forget(), 0);
        x.one(0, 0);
        x.note(0, 1, 1, 500);
        x.note(0, 1, 1, 500);
        Due.due("23 two", x.forget(), 2);
        Due.due("23 none", x.forget(), 0);
        Due.due("23 no notes", x.is(0), 63);
    }

    private static void promise24() {
        EclipseSeats x = new EclipseSeats();
        Due.due("24 nobody", x.is(0), -2);
        x.one(0, 0);
        x.one(3, 0);
        Due.due("24 all", x.is(0), 63);
        x.note(0, 200, 3, 200);
        Due.due("24 plain, tall, tripod", x.is(0), 1 + 2 + 16);
        Due.due("24 of another nothing is known", x.is(1), 63);
        x.note(0, 100, 3, 0);
        Due.due("24 tripod", x.is(0), 16);
        x.note(0, 100, 3, 1);
        Due.due("24 none", x.is(0), 0);
        x.note(1, 101, 3, 150);
        Due.due("24 school", x.is(1), 32);
        x.forget();
        x.note(1, 101, 3, 161);
        Due.due("24 dog", x.is(1), 8);
        x.forget();
        x.note(1, 101, 3, 50);
        Due.due("24 poor", x.is(1), 4);
        Due.due("24 BAD", x.is(2), -2);
        Due.due("24 BAD", x.is(-1), -2);
        Due.dueStatus(x, 3, 0, 0);
    }

    private static void promise25() {
        EclipseSeats x = new EclipseSeats();
        Due.due("25 nobody", x.offer(0), -2);
        x.one(0, 0);
        Due.due("25 of all: the dog, the tripod apart from the plain", x.offer(0), 1);
        x.track(0, 220);
        Due.due("25 where it is dark less than 200 seconds", x.offer(0), 31);
        x.note(0, 100, 0, 100);
        Due.due("25 a dog or not", x.offer(0), 1);
        x.note(0, 100, 1, 120);
        Due.due("25 one kind is left", x.offer(0), 0);
        x.note(0, 100, 1, 121);
        Due.due("25 no kind", x.offer(0), -1);
        Due.due("25 BAD", x.offer(1), -2);
        Due.due("25 BAD", x.offer(-1), -2);
        Due.dueStatus(x, 3, 0, 0);
        x.hill(7, 5);
        x.one(0, 0);
        Due.due("25 dark enough at 7 alone", x.offer(0), 71);
    }

    private static void promise26() {
        EclipseSeats x = new EclipseSeats();
        x.one(0, 0);
        Due.due("26 BAD", x.two(0, 1, -1), -10);
        x.one(0, 0);
        // In front of each other until one is at 0: whoever is behind gets 0 wherever it goes.
        Due.due("26 pairs", x.two(0, 1, -1), 3);
        int[] pairs = {0, 1, 8};
        for (int k = 0; k < pairs.length; k++) {
            Due.due("26 pair " + k, x.two(0, 1, k), pairs[k]);
        }
        Due.due("26 not so many", x.two(0, 1, 3), -5);
        Due.due("26 not so many", x.two(0, 1, Integer.MAX_VALUE), -5);
        Due.due("26 BAD", x.two(0, 0, -1), -10);
        Due.due("26 BAD", x.two(0, 2, -1), -10);
        Due.due("26 BAD", x.two(-1, 0, -1), -10);
        Due.due("26 BAD", x.two(0, 1, -2), -10);
        Due.dueStatus(x, 5, 0, 0);
        x.sell(3);
        Due.due("26 seats are not asked", x.two(0, 1, -1), 3);
        x.height(4, 9);
        x.one(5, 0);
        Due.due("26 a height above the head", x.two(0, 2, -1), 3);
        Due.due("26 the school does not hide the plain one", x.two(0, 2, 0), 8 * 3 + 2);
        Due.due("26 nor the plain one the school above it", x.two(0, 2, 1), 8 * 3 + 4);
        Due.due("26 nor the other way round", x.two(0, 2, 2), 8 * 4 + 3);
        Due.due("26 the first one's yard is the greater part", x.two(2, 0, 0), 8 * 2 + 3);
    }

    private static void promise27() {
        EclipseSeats x = new EclipseSeats();
        Due.due("27 nobody", x.clouds(0), 1);
        fraction(x, 0, 1);
        x.hill(3, 7);
        x.one(0, 500);
        x.sell(3);
        int[][] due = {{7, 1}, {63, 10}, {28, 5}, {49, 10}, {21, 5}, {7, 2}, {14, 5}, {21, 10}, {7, 5}, {7, 10}, {0, 1}};
        for (int c = 0; c <= 10; c++) {
            Due.due("27 clouds", x.clouds(c), 1);
            fraction(x, due[c][0], due[c][1]);
        }
        x.clouds(1);
        Due.due("27 BAD", x.clouds(11), -2);
        Due.due("27 BAD", x.clouds(-1), -2);
        fraction(x, 63, 10);
        Due.dueStatus(x, 2, 0, 0);
    }

    private static void fraction(EclipseSeats x, int above, int below) {
        Due.due("27 above", x.part(0), above);
        Due.due("27 below", x.part(1), below);
    }

    private static void promise28() {
        EclipseSeats x = new EclipseSeats();
        Due.due("28 nobody", x.eclipses(5, 60), 0);
        x.one(0, 500);
        x.height(2, 1);
        x.sell(1);
        Due.due("28 none", x.eclipses(999999, 0), 0);
        // X is 12345, so that THE TRACK is 0 and THE DARK 0.
        Due.due("28 the first one", x.eclipses(0, 1), 0);
        // X is 1103527590, so that THE TRACK is 16838 by 8, 6, and THE DARK 1052 by 241, 88.
        Due.due("28 the first one", x.eclipses(1, 1), 88 - 45);
        // X is 377401575 then, so that THE TRACK is 5758 by 8, 6, and THE DARK 359 by 241, 118.
        Due.due("28 two", x.eclipses(1, 2), 88 - 45 + 118 - 45);
        x.one(0, 500);
        x.height(6, 1);
        x.sell(6);
        Due.due("28 one more, who sees past the first", x.eclipses(1, 2), 88 - 45 + 118 - 45 + 88 + 118);
        x.height(6, 0);
        Due.due("28 who sees nothing", x.eclipses(1, 2), 88 - 45 + 118 - 45);
        Due.due("28 BAD", x.eclipses(-1, 0), -2);
        Due.due("28 BAD", x.eclipses(1000000, 0), -2);
        Due.due("28 BAD", x.eclipses(0, -1), -2);
        Due.due("28 BAD", x.eclipses(0, 61), -2);
        Due.due("28 nothing is changed", x.yard(3, 1), 240);
        Due.dueStatus(x, 4, 0, 0);
    }
}
