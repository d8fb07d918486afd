/** Promises 15 to 21: sees, gives, auction, hurt, best, all, move. */
public final class SeesTest {
    public static void main(String[] args) {
        promise15();
        promise16();
        promise16Kinds();
        promise17();
        promise18();
        promise19();
        promise20();
        promise21();
        Due.end();
    }

    private static void promise15() {
        EclipseSeats x = Due.told("hill 3;heights 0 0 3 3 4 0 0 9;one 1 50;one 0 50;one 0 50;seat 0 1;seat 1 5;");
        Due.due("15 nobody before it", x.sees(0, -1), 222);
        Due.due("15 behind a head", x.sees(1, -1), 0);
        Due.due("15 without a yard", x.sees(2, -1), 0);
        Due.due("15 in its own", x.sees(1, 5), 0);
        Due.due("15 a head not above it", x.sees(1, 2), 231);
        Due.due("15 a head below it", x.sees(2, 4), 231);
        Due.due("15 before all", x.sees(2, 0), 213);
        Due.due("15 its own head is none", x.sees(0, 6), 0);
        x.leave(1);
        Due.due("15 its own head is none", x.sees(0, 6), 213);
        Due.due("15 somebody else", x.sees(2, 1), -3);
        Due.due("15 BAD", x.sees(3, 0), -2);
        Due.due("15 BAD", x.sees(-1, 0), -2);
        Due.due("15 BAD", x.sees(0, 8), -2);
        Due.due("15 BAD", x.sees(0, -2), -2);
        Due.due("15 nothing is changed", x.of(0, 3), 1);
        Due.dueStatus(x, 4, 1, 0);
    }

    private static void promise16() {
        EclipseSeats x = Due.told("hill 3;one 0 50;one 2 10;one 0 10;seat 0 3;");
        Due.due("16 now", x.gives(0, -1), 240);
        Due.due("16 none", x.gives(1, -1), 0);
        Due.due("16 purse at most", x.gives(1, 2), 100);
        Due.due("16 nothing seen", x.gives(1, 4), 0);
        Due.due("16 its own", x.gives(0, 3), 240);
        Due.due("16 somebody else", x.gives(1, 3), -3);
        Due.due("16 BAD", x.gives(3, 0), -2);
        Due.due("16 BAD", x.gives(-1, 0), -2);
        Due.due("16 BAD", x.gives(0, 8), -2);
        Due.due("16 BAD", x.gives(0, -2), -2);
        Due.dueStatus(x, 4, 1, 0);
    }

    private static void promise16Kinds() {
        int[][] worth = {
            {199, 199, 99, 279, 0, 297},
            {200, 200, 100, 280, 200, 300},
            {0, 0, 0, 0, 0, 0},
            {1, 1, 0, 81, 0, 0},
        };
        int[] seconds = {199, 200, 0, 1};
        for (int i = 0; i < seconds.length; i++) {
            for (int kind = 0; kind < 6; kind++) {
                EclipseSeats x = new EclipseSeats();
                x.hill(5, seconds[i]);
                x.height(5, 4);
                x.one(kind, 500);
                Due.due("16 " + seconds[i] + " seconds to " + kind, x.gives(0, 5), worth[i][kind]);
            }
        }
    }

    private static void promise17() {
        EclipseSeats x = new EclipseSeats();
        Due.due("17 nobody", x.auction(0, 0), -1);
        Due.due("17 nobody", x.auction(0, 1), -1);
        x.one(0, 0);
        Due.due("17 all bid 0", x.auction(3, 0), -1);
        Due.due("17 all bid 0", x.auction(3, 1), -1);
        x.one(0, 90);
        Due.due("17 who", x.auction(3, 0), 1);
        Due.due("17 for nothing", x.auction(3, 1), 0);
        x.one(1, 90);
        Due.due("17 the first", x.auction(3, 0), 1);
        Due.due("17 a like one", x.auction(3, 1), 90);
        x.one(5, 500);
        Due.due("17 the highest", x.auction(3, 0), 3);
        Due.due("17 the next", x.auction(3, 1), 90);
        x.sell(3);
        Due.due("17 somebody has it", x.auction(3, 0), -3);
        Due.due("17 somebody has it", x.auction(3, 1), -3);
        Due.due("17 those without bid", x.auction(0, 0), 1);
        Due.due("17 BAD", x.auction(8, 0), -2);
        Due.due("17 BAD", x.auction(-1, 0), -2);
        Due.due("17 BAD", x.auction(0, 2), -2);
        Due.due("17 BAD is ahead of NO", x.auction(3, -1), -2);
        Due.dueStatus(x, 4, 2, 0);
    }

    private static void promise18() {
        EclipseSeats x = Due.told("hill 3;heights 0 0 0 0 1 0 0 0;one 1 1;one 3 1;one 0 1;one 3 1;seat 0 5;seat 1 3;seat 2 7;");
        Due.due("18 none behind but one hidden already", x.hurt(1, 3), 0);
        Due.due("18 its own", x.hurt(0, 5), 204);
        Due.due("18 further in front", x.hurt(0, 0), 204 + 240);
        Due.due("18 behind all that see", x.hurt(0, 6), 204);
        Due.due("18 a dog's head", x.hurt(3, 0), 0);
        Due.due("18 a dog on a height", x.hurt(3, 4), 222);
        Due.due("18 somebody else", x.hurt(3, 5), -3);
        Due.due("18 BAD", x.hurt(4, 0), -2);
        Due.due("18 BAD", x.hurt(-1, 0), -2);
        Due.due("18 BAD", x.hurt(0, 8), -2);
        Due.due("18 BAD", x.hurt(0, -1), -2);
        Due.due("18 nothing is changed", x.of(0, 3), 5);
        Due.dueStatus(x, 4, 1, 0);
    }

    private static void promise19() {
        EclipseSeats x = Due.told("hill 3;one 0 0;");
        Due.due("19 under the track", x.best(0, 0), 3);
        Due.due("19 purses are not asked", x.best(0, 1), 240);
        x = Due.told("hill 3;one 1 0;one 0 0;seat 1 3;");
        Due.due("19 behind one who hides it: 0, ahead: less", x.best(0, 0), 4);
        Due.due("19 how much", x.best(0, 1), 0);
        x = Due.told("hill 3;dark 0;one 1 0;");
        Due.due("19 the least", x.best(0, 0), 0);
        Due.due("19 nothing", x.best(0, 1), 0);
        x = Due.told("hill 0;one 4 0;one 3 0;one 3 0;seat 1 7;seat 2 6;");
        Due.due("19 the least of like ones", x.best(0, 0), 0);
        Due.due("19 below 0", x.best(0, 1), 240 - 177 - 186);
        Due.due("19 BAD", x.best(3, 0), -10000);
        Due.due("19 BAD", x.best(-1, 0), -10000);
        Due.due("19 BAD", x.best(0, 2), -10000);
        Due.due("19 BAD", x.best(0, -1), -10000);
        Due.dueStatus(x, 4, 0, 0);
    }

    private static void promise20() {
        EclipseSeats x = new EclipseSeats();
        Due.due("20 nobody", x.all(-1), 0);
        Due.due("20 BAD", x.all(0), -10);
        Due.due("20 BAD", x.all(-2), -10);
        x.one(1, 0);
        x.one(0, 0);
        Due.due("20 one hides the other", x.all(-1), 240);
        Due.due("20 the first way", x.all(0), 3);
        Due.due("20 the first way", x.all(1), 4);
        Due.due("20 BAD", x.all(2), -10);
        x.height(4, 3);
        Due.due("20 a seat above the head", x.all(-1), 471);
        Due.due("20 who where", x.all(0), 3);
        Due.due("20 who where", x.all(1), 4);
        Due.due("20 nothing is changed", x.count(1), 8);
        x.track(3, 0);
        for (int i = 0; i < 3; i++) {
            x.one(5, 0);
        }
        Due.due("20 nothing seen", x.all(-1), 0);
        for (int p = 0; p < 5; p++) {
            Due.due("20 rising", x.all(p), p);
        }
        Due.dueStatus(x, 3, 0, 0);
    }

    private static void promise21() {
        EclipseSeats x = Due.told("hill 3;one 0 0;one 1 0;one 3 0;one 3 0;seat 0 5;");
        Due.due("21 nobody is hurt", x.move(0), 0);
        Due.due("21 nobody is hurt", x.move(1), 0);
        x = Due.told("hill 3;one 0 0;one 1 0;seat 1 0;seat 0 1;");
        Due.due("21 the one behind", x.move(0), 1);
        x = Due.told("hill 3;one 3 0;one 3 0;seat 1 0;seat 0 1;");
        Due.due("21 of like ones the first", x.move(0), 0);
        Due.due("21 nobody is hurt by a dog", x.move(1), 0);
        x = Due.told("hill 3;one 3 0;one 1 0;one 1 0;one 3 0;seat 0 5;seat 1 1;");
        Due.due("21 who", x.move(0), 1);
        Due.due("21 how much", x.move(1), 222);
        x = Due.told("hill 3;one 3 0;one 1 0;one 1 0;one 3 0;seat 0 5;seat 1 1;seat 2 2;");
        Due.due("21 the one hides the other", x.move(0), 1);
        Due.due("21 how much", x.move(1), 231);
        x = Due.told("hill 3;one 3 0;");
        Due.due("21 nobody has a yard", x.move(0), -1);
        Due.due("21 nobody has a yard", x.move(1), -1);
        Due.due("21 BAD", x.move(2), -2);
        Due.due("21 BAD", x.move(-1), -2);
        Due.dueStatus(x, 2, 0, 0);
    }
}
