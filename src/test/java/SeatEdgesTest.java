/** The edges that the second half of 'Terms' names: like ones, none, nothing, the last and the most of each. */
public final class SeatEdgesTest {
    private static final String FIVE_DOGS = "hill 3;one 3 50;one 3 50;one 3 50;one 3 50;one 3 50;";

    public static void main(String[] args) {
        seesWithoutAYard();
        givesPurseAtMost();
        auctionOfLikeOnes();
        auctionOfNobody();
        auctionOfNothing();
        sellAWholePurse();
        paidAddsUp();
        leaveAndMoves();
        hurtOfNobody();
        hurtOfThoseWhoSee();
        bestOfLikeOnes();
        bestBelowNothing();
        allOfNobodyAndOfFive();
        allOfLikeWays();
        moveOfLikeOnes();
        moveOfNobody();
        Due.end();
    }

    private static void seesWithoutAYard() {
        EclipseSeats x = Due.told("hill 3;one 0 50;one 1 50;seat 1 3;");
        Due.due("none has: 0", x.sees(0, -1), 0);
        Due.due("none gives: 0", x.gives(0, -1), 0);
        Due.due("were it in a free one", x.sees(0, 0), 213);
        Due.due("now", x.sees(1, -1), 240);
        Due.due("in its own", x.sees(1, 3), 240);
        Due.due("somebody else is there", x.sees(0, 3), -3);
        x.leave(1);
        Due.due("none has now", x.sees(1, -1), 0);
        Due.due("none gives now", x.gives(1, -1), 0);
    }

    private static void givesPurseAtMost() {
        int[] kinds = {0, 1, 2, 3, 4, 5};
        int[] worth = {240, 240, 120, 420, 240, 360};
        for (int kind : kinds) {
            dueGives(kind, 0, 0);
            dueGives(kind, 1, 1);
            dueGives(kind, worth[kind] - 1, worth[kind] - 1);
            dueGives(kind, worth[kind], worth[kind]);
            dueGives(kind, worth[kind] + 1, worth[kind]);
            dueGives(kind, 500, worth[kind]);
        }
    }

    private static void dueGives(int kind, int purse, int want) {
        EclipseSeats x = new EclipseSeats();
        x.height(3, 9);
        x.one(kind, purse);
        Due.due(kind + " gives of " + purse, x.gives(0, 3), want);
        Due.due(kind + " bids of " + purse, x.auction(3, 0), want == 0 ? -1 : 0);
    }

    private static void auctionOfLikeOnes() {
        EclipseSeats x = new EclipseSeats();
        x.one(0, 90);
        dueAuction(x, 3, 0, 0);
        x.one(0, 90);
        dueAuction(x, 3, 0, 90);
        x.one(0, 91);
        dueAuction(x, 3, 2, 90);
        x.one(0, 0);
        dueAuction(x, 3, 2, 90);
        x.one(1, 500);
        dueAuction(x, 3, 4, 91);
        x = Due.told("hill 3;one 0 50;one 1 50;one 4 50;");
        dueAuction(x, 3, 0, 240);
        x = Due.told("hill 3;one 2 1;one 0 0;one 2 0;");
        dueAuction(x, 3, 0, 0);
    }

    private static void auctionOfNobody() {
        EclipseSeats x = new EclipseSeats();
        dueAuction(x, 0, -1, -1);
        Due.due("nobody would", x.sell(0), -3);
        x = Due.told("hill 3;one 0 50;one 0 50;seat 0 3;seat 1 2;");
        dueAuction(x, 0, -1, -1);
        Due.due("no bidder is without", x.sell(0), -3);
        x.leave(0);
        dueAuction(x, 0, 0, 0);
    }

    private static void auctionOfNothing() {
        EclipseSeats x = Due.told("hill 3;one 0 0;one 1 0;one 5 0;");
        dueAuction(x, 3, -1, -1);
        Due.due("no purse: nobody would", x.sell(3), -3);
        x = Due.told("hill 3;dark 0;one 0 50;one 3 50;");
        dueAuction(x, 3, -1, -1);
        Due.due("no dark: nobody would", x.sell(3), -3);
        x = Due.told("hill 3;one 0 50;one 0 50;seat 0 0;");
        dueAuction(x, 3, -1, -1);
        Due.due("behind a head: nobody would", x.sell(3), -3);
        x = Due.told("hill 3;one 2 50;one 5 50;one 4 50;");
        x.track(3, 1);
        dueAuction(x, 3, -1, -1);
        x.track(3, 2);
        dueAuction(x, 3, 1, 1);
        x = Due.told("hill 3;one 4 50;");
        x.track(3, 199);
        dueAuction(x, 3, -1, -1);
        x.track(3, 200);
        dueAuction(x, 3, 0, 0);
    }

    private static void dueAuction(EclipseSeats x, int y, int who, int price) {
        Due.due("who has " + y, x.auction(y, 0), who);
        Due.due("the price of " + y, x.auction(y, 1), price);
    }

    private static void sellAWholePurse() {
        EclipseSeats x = new EclipseSeats();
        x.one(0, 90);
        x.one(0, 90);
        Due.due("of like ones the first", x.sell(3), 0);
        Due.due("its whole purse", x.of(0, 1), 0);
        Due.due("is paid", x.of(0, 2), 90);
        Due.due("nobody else", x.sell(2), 1);
        Due.due("for nothing", x.of(1, 1), 90);
        Due.due("for nothing", x.of(1, 2), 0);
        x.leave(0);
        Due.due("an empty purse bids nothing", x.sell(0), -3);
        Due.due("undo what was left", x.undo(), 6);
        Due.due("undo what was sold for nothing", x.undo(), 7);
        Due.due("undo what was sold", x.undo(), 8);
        Due.due("the purse is back", x.of(0, 1), 90);
        Due.due("nothing is paid", x.of(0, 2), 0);
        Due.due("no more", x.undo(), -3);
    }

    private static void paidAddsUp() {
        EclipseSeats x = new EclipseSeats();
        x.one(0, 500);
        x.one(2, 500);
        Due.due("sold", x.sell(3), 0);
        Due.due("left", x.leave(0), 3);
        Due.due("sold again", x.sell(3), 0);
        Due.due("paid twice", x.of(0, 2), 240);
        Due.due("the purse is as much less", x.of(0, 1), 260);
        x.leave(0);
        x.sell(3);
        x.leave(0);
        Due.due("140 of its purse is left", x.of(0, 1), 140);
        Due.due("paid thrice", x.of(0, 2), 360);
        x.sell(3);
        x.leave(0);
        Due.due("20 of its purse is left", x.of(0, 1), 20);
        Due.due("the other one has it now", x.sell(3), 1);
        Due.due("for what the first one has", x.of(1, 2), 20);
        Due.due("paid by all", x.count(3), 500);
        Due.due("eight at most of nine", x.count(5), 8);
        for (int i = 0; i < 8; i++) {
            x.undo();
        }
        Due.due("behind the first sale", x.of(0, 3), 3);
        Due.due("behind the first sale", x.of(0, 1), 380);
        Due.due("behind the first sale", x.of(0, 2), 120);
        Due.due("the first sale stays", x.undo(), -3);
    }

    private static void leaveAndMoves() {
        EclipseSeats x = Due.told("hill 3;one 0 50;one 0 50;seat 0 0;seat 1 7;");
        Due.due("leaves the last yard", x.leave(1), 7);
        Due.due("leaves no yard", x.leave(1), -3);
        Due.due("goes to the last yard", x.moves(0, 7), 0);
        Due.due("goes to its own", x.moves(0, 7), -3);
        Due.due("goes to the first yard", x.moves(0, 0), 7);
        Due.due("goes from none", x.moves(1, 7), -3);
        Due.due("leaves the first yard", x.leave(0), 0);
        Due.due("all are free", x.count(1), 8);
        Due.due("undo of what was left", x.undo(), 7);
        Due.due("undo of where it went", x.undo(), 7);
        Due.due("where it is then", x.of(0, 3), 7);
        x = Due.told(FIVE_DOGS + "seat 0 0;seat 1 1;seat 2 2;seat 3 3;seat 4 4;");
        Due.due("goes past all", x.moves(0, 7), 0);
        Due.due("three are free then", x.undo(), 3);
        x.leave(4);
        Due.due("three are free then", x.undo(), 3);
    }

    private static void hurtOfNobody() {
        EclipseSeats x = Due.told("hill 3;one 4 50;one 0 50;one 0 50;");
        Due.due("nobody has a yard", x.hurt(0, 0), 0);
        x = Due.told("hill 3;one 4 50;one 0 50;one 0 50;seat 0 0;");
        Due.due("its own, nobody else has one", x.hurt(0, 0), 0);
        x = Due.told("hill 3;one 4 50;one 0 50;seat 1 0;");
        Due.due("all others are before it", x.hurt(0, 1), 0);
        Due.due("all others are before it", x.hurt(0, 7), 0);
        x = Due.told("hill 3;dark 0;one 4 50;one 0 50;seat 1 7;");
        Due.due("others see nothing anyway", x.hurt(0, 0), 0);
    }

    private static void hurtOfThoseWhoSee() {
        EclipseSeats x = Due.told("hill 3;heights 0 0 0 0 3 4 9 9;one 4 50;one 0 50;seat 1 5;");
        Due.due("as high as the head", x.hurt(0, 0), 0);
        x.moves(1, 4);
        Due.due("lower by 1", x.hurt(0, 0), 231);
        x = Due.told("hill 3;one 4 50;one 3 50;one 3 50;one 3 50;one 3 50;seat 1 7;seat 2 5;seat 3 4;seat 4 3;");
        Due.due("all four", x.hurt(0, 0), 204 + 222 + 231 + 240);
        Due.due("the last one", x.hurt(0, 6), 204);
        x = Due.told("hill 3;one 4 50;one 0 50;one 3 50;seat 1 2;seat 2 4;");
        Due.due("hidden already", x.hurt(0, 3), 0);
        Due.due("ahead of both: what is seen of them", x.hurt(0, 1), 231);
        Due.due("its own among two who hide the same", x.hurt(1, 2), 231);
    }

    private static void bestOfLikeOnes() {
        EclipseSeats x = Due.told("hill 3;one 3 50;one 3 50;seat 0 3;");
        Due.due("2 and 4 are alike", x.best(1, 0), 2);
        Due.due("2 and 4 are alike", x.best(1, 1), 231);
        Due.due("its own is the best", x.best(0, 0), 3);
        Due.due("its own is the best", x.best(0, 1), 240);
        x = Due.told("hill 7;one 0 0;");
        Due.due("the last yard, no purse", x.best(0, 0), 7);
        x = Due.told("hill 7;dark 0;one 0 0;");
        Due.due("all are alike", x.best(0, 0), 0);
        Due.due("all are alike", x.best(0, 1), 0);
        x = Due.told("hill 0;dark 0;one 0 0;one 0 0;seat 1 0;");
        Due.due("the least that is free", x.best(0, 0), 1);
    }

    private static void bestBelowNothing() {
        // A tripod to whom nothing is worth anything, who hides all four wherever it is but behind them.
        EclipseSeats x = Due.told("hill 0;dark 19;one 4 0;one 3 0;one 3 0;one 3 0;one 3 0;"
                + "seat 1 7;seat 2 6;seat 3 5;seat 4 4;");
        Due.due("the least of like ones, all below 0", x.best(0, 0), 0);
        Due.due("how much", x.best(0, 1), -(127 + 136 + 145 + 154));
        x.leave(1);
        Due.due("behind all the others", x.best(0, 0), 7);
        Due.due("nothing", x.best(0, 1), 0);
        x = Due.told("hill 0;one 0 0;one 3 0;seat 1 7;");
        Due.due("above 0 by 63", x.best(0, 1), 63);
    }

    private static void allOfNobodyAndOfFive() {
        EclipseSeats x = new EclipseSeats();
        Due.due("nobody is there", x.all(-1), 0);
        Due.due("nobody is there, the first", x.all(0), -10);
        x.one(5, 0);
        Due.due("one, without a purse", x.all(-1), 360);
        Due.due("one", x.all(0), 3);
        x = Due.told(FIVE_DOGS);
        Due.due("five who hide nobody", x.all(-1), 240 + 2 * 231 + 2 * 222);
        for (int p = 0; p < 5; p++) {
            Due.due("the first way of five", x.all(p), 1 + p);
        }
        Due.due("the sixth", x.all(5), -10);
        x.sell(7);
        Due.due("seats are anew", x.all(0), 1);
        x = Due.told("hill 3;heights 0 0 0 0 0 0 0 9;one 4 0;one 4 0;one 4 0;one 4 0;one 4 0;");
        Due.due("tripods hide one another but for the highest yard", x.all(-1), 240 + 204);
        int[] seats = {3, 4, 5, 6, 7};
        for (int p = 0; p < 5; p++) {
            Due.due("the first way of tripods", x.all(p), seats[p]);
        }
    }

    private static void allOfLikeWays() {
        EclipseSeats x = Due.told("hill 3;one 3 0;one 0 0;");
        Due.due("a dog before a plain one", x.all(-1), 471);
        Due.due("2 and 3, not 3 and 4", x.all(0), 2);
        Due.due("2 and 3, not 3 and 4", x.all(1), 3);
        x = Due.told("hill 3;one 0 0;one 3 0;");
        Due.due("3 and 2, not 4 and 3", x.all(0), 3);
        Due.due("3 and 2, not 4 and 3", x.all(1), 2);
        x = Due.told("hill 7;dark 0;one 0 0;one 1 0;one 2 0;one 4 0;one 5 0;");
        Due.due("nothing is seen", x.all(-1), 0);
        for (int p = 0; p < 5; p++) {
            Due.due("the very first way", x.all(p), p);
        }
        String[] high = {"8 8 8 8 8 8 8 8", "9 9 9 9 9 9 9 9", "9 9 9 9 8 8 8 8"};
        for (String heights : high) {
            x = Due.told("hill 3;heights " + heights + ";one 0 0;one 1 0;");
            Due.due("heads above all heights " + heights, x.all(-1), 240);
            Due.due("the one who sees", x.all(0), 3);
            Due.due("the one behind", x.all(1), 4);
        }
        x = Due.told("hill 3;heights 0 0 0 8 9 9 9 9;one 0 0;one 0 0;");
        Due.due("a head as high as the highest yard", x.all(-1), 471);
        x = Due.told("hill 7;one 0 0;one 0 0;");
        Due.due("each hides whoever is behind", x.all(-1), 231);
        Due.due("6 and 7, not 7 and 6", x.all(0), 6);
        Due.due("6 and 7, not 7 and 6", x.all(1), 7);
    }

    private static void moveOfLikeOnes() {
        EclipseSeats x = Due.told("hill 3;one 1 0;one 0 0;one 0 0;one 3 0;seat 1 2;seat 3 4;");
        Due.due("who hides one", x.move(0), 1);
        Due.due("how much more", x.move(1), 231);
        x = Due.told("hill 3;one 3 0;one 3 0;one 3 0;seat 1 7;seat 2 6;");
        Due.due("of like ones the first that has a yard", x.move(0), 1);
        Due.due("nothing more", x.move(1), 0);
        x = Due.told("hill 3;one 3 0;one 1 0;one 3 0;seat 0 2;seat 1 3;seat 2 5;");
        Due.due("who hides the one behind, not the one before", x.move(0), 1);
        Due.due("how much more", x.move(1), 222);
        x = Due.told("hill 3;heights 0 0 0 1 9 0 0 9;one 0 0;one 0 0;one 0 0;one 0 0;seat 2 3;seat 1 4;seat 0 5;");
        Due.due("hidden by one of two", x.move(0), 0);
        Due.due("hidden by both", x.move(1), 0);
        x.leave(2);
        Due.due("hidden by one alone", x.move(0), 1);
        Due.due("what it sees then", x.move(1), 222);
    }

    private static void moveOfNobody() {
        EclipseSeats x = new EclipseSeats();
        Due.due("nobody is there", x.move(0), -1);
        Due.due("nobody is there", x.move(1), -1);
        x.one(0, 500);
        Due.due("nobody has a yard", x.move(0), -1);
        Due.due("nobody has a yard", x.move(1), -1);
        x.sell(0);
        Due.due("one has, and hides nobody", x.move(0), 0);
        Due.due("one has, and hides nobody", x.move(1), 0);
        Due.dueStatus(x, 0, 0, 0);
    }
}
