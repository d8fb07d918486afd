/** Promises 9 to 14: sell, leave, moves, undo, of, yard. */
public final class YardsTest {
    public static void main(String[] args) {
        promise9();
        promise10();
        promise11();
        promise12();
        promise12Limits();
        promise13();
        promise14();
        Due.end();
    }

    private static void promise9() {
        EclipseSeats x = new EclipseSeats();
        Due.due("9 nobody is there", x.sell(0), -3);
        x.one(0, 100);
        x.one(2, 500);
        x.one(1, 120);
        Due.due("9 BAD", x.sell(8), -2);
        Due.due("9 BAD", x.sell(-1), -2);
        Due.due("9 of like ones the first", x.sell(3), 1);
        Due.due("9 at what the next one bids", x.of(1, 2), 120);
        Due.due("9 the purse is less", x.of(1, 1), 380);
        Due.due("9 its yard", x.of(1, 3), 3);
        Due.due("9 who has it", x.yard(3, 2), 1);
        Due.due("9 somebody has it", x.sell(3), -3);
        Due.due("9 behind a head nobody would", x.sell(4), -3);
        Due.due("9 the next", x.sell(0), 2);
        Due.due("9 its price", x.of(2, 2), 100);
        Due.due("9 the last one pays nothing", x.height(1, 9), 0);
        Due.due("9 the last one", x.sell(1), 0);
        Due.due("9 for nothing", x.of(0, 2), 0);
        Due.due("9 nobody is without", x.sell(7), -3);
        Due.due("9 paid by all", x.count(3), 220);
        Due.dueStatus(x, 2, 4, 0);
    }

    private static void promise10() {
        EclipseSeats x = new EclipseSeats();
        x.one(0, 300);
        x.one(0, 200);
        x.sell(3);
        Due.due("10 BAD", x.leave(2), -2);
        Due.due("10 BAD", x.leave(-1), -2);
        Due.due("10 none", x.leave(1), -3);
        Due.due("10 which", x.leave(0), 3);
        Due.due("10 it has none", x.of(0, 3), -1);
        Due.due("10 the yard is free", x.yard(3, 2), -1);
        Due.due("10 nothing is given back", x.of(0, 1), 100);
        Due.due("10 it has paid", x.of(0, 2), 200);
        Due.due("10 none now", x.leave(0), -3);
        Due.dueStatus(x, 2, 2, 0);
    }

    private static void promise11() {
        EclipseSeats x = new EclipseSeats();
        x.one(0, 300);
        x.one(0, 200);
        x.sell(3);
        Due.due("11 BAD bidder", x.moves(2, 0), -2);
        Due.due("11 BAD bidder", x.moves(-1, 0), -2);
        Due.due("11 BAD yard", x.moves(0, 8), -2);
        Due.due("11 BAD yard", x.moves(1, -1), -2);
        Due.due("11 it has none", x.moves(1, 0), -3);
        x.sell(2);
        Due.due("11 somebody else", x.moves(0, 2), -3);
        Due.due("11 its own", x.moves(0, 3), -3);
        Due.due("11 where it was", x.moves(0, 7), 3);
        Due.due("11 where it is", x.of(0, 3), 7);
        Due.due("11 for nothing", x.of(0, 1), 100);
        Due.dueStatus(x, 4, 3, 0);
    }

    private static void promise12() {
        EclipseSeats x = new EclipseSeats();
        Due.due("12 none", x.undo(), -3);
        x.one(0, 300);
        x.one(0, 200);
        x.sell(3);
        x.note(0, 1, 1, 1);
        x.moves(0, 5);
        x.leave(0);
        Due.due("12 three may be undone", x.count(5), 3);
        Due.due("12 left", x.undo(), 7);
        Due.due("12 is back", x.of(0, 3), 5);
        Due.due("12 moved", x.undo(), 7);
        Due.due("12 is back", x.of(0, 3), 3);
        Due.due("12 its price", x.of(0, 2), 200);
        Due.due("12 sold", x.undo(), 8);
        Due.due("12 has none", x.of(0, 3), -1);
        Due.due("12 purse", x.of(0, 1), 300);
        Due.due("12 paid", x.of(0, 2), 0);
        Due.due("12 notes stay", x.count(4), 1);
        Due.due("12 none", x.undo(), -3);
        Due.dueStatus(x, 0, 2, 0);
    }

    private static void promise12Limits() {
        EclipseSeats x = new EclipseSeats();
        x.one(0, 300);
        x.sell(0);
        for (int i = 1; i <= 11; i++) {
            x.moves(0, i % 8);
            Due.due("12 how many may be", x.count(5), Math.min(8, i + 1));
        }
        for (int i = 10; i >= 3; i--) {
            Due.due("12 undo", x.undo(), 7);
            Due.due("12 seat " + i, x.of(0, 3), i % 8);
        }
        Due.due("12 eight at most", x.undo(), -3);
        x.moves(0, 7);
        x.one(0, 0);
        Due.due("12 behind a bidder", x.undo(), -3);
        x.moves(0, 6);
        x.height(0, 0);
        Due.due("12 behind a height", x.undo(), -3);
        x.moves(0, 7);
        x.track(3, 240);
        Due.due("12 behind a track", x.undo(), -3);
        x.moves(0, 6);
        x.height(8, 0);
        x.track(8, 0);
        x.one(6, 0);
        Due.due("12 behind what is refused", x.undo(), 7);
    }

    private static void promise13() {
        EclipseSeats x = new EclipseSeats();
        Due.due("13 BAD", x.of(0, 0), -10);
        int[] heads = {1, 3, 1, 0, 4};
        for (int kind = 0; kind < 5; kind++) {
            x.one(kind, 100 * kind);
            Due.due("13 kind", x.of(kind, 0), kind);
            Due.due("13 purse", x.of(kind, 1), 100 * kind);
            Due.due("13 paid", x.of(kind, 2), 0);
            Due.due("13 yard", x.of(kind, 3), -1);
            Due.due("13 head", x.of(kind, 4), heads[kind]);
        }
        Due.due("13 BAD", x.of(5, 0), -10);
        Due.due("13 BAD", x.of(-1, 0), -10);
        Due.due("13 BAD", x.of(0, 5), -10);
        Due.due("13 BAD", x.of(0, -1), -10);
        Due.dueStatus(x, 5, 0, 0);
        x.hill(3, 240);
        x.one(5, 0);
        Due.due("13 head of a school", x.of(0, 4), 0);
    }

    private static void promise14() {
        EclipseSeats x = new EclipseSeats();
        x.hill(4, 30);
        x.height(2, 6);
        x.one(0, 10);
        x.sell(2);
        Due.due("14 height", x.yard(2, 0), 6);
        Due.due("14 dark", x.yard(2, 1), 12);
        Due.due("14 who", x.yard(2, 2), 0);
        Due.due("14 nobody", x.yard(3, 2), -1);
        Due.due("14 not dark", x.yard(0, 1), 0);
        Due.due("14 BAD", x.yard(8, 0), -10);
        Due.due("14 BAD", x.yard(-1, 0), -10);
        Due.due("14 BAD", x.yard(0, 3), -10);
        Due.due("14 BAD", x.yard(0, -1), -10);
        Due.dueStatus(x, 4, 0, 0);
    }
}
