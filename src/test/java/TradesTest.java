/** Promises 15 to 22: trades of players and turns, and what they are worth. */
public final class TradesTest {
    public static void main(String[] args) {
        givePlayers();
        giveTurns();
        giveTurnOfYearGone();
        fourClubsAtMost();
        twelveMovesAtMost();
        whatBeginsItAnew();
        rosters();
        matching();
        matchingOfTheHurt();
        firstByClubs();
        othersAreNotAsked();
        gains();
        gainsOfEachTurn();
        worthsOutOfRange();
        dealsAreDone();
        contractsGoAlong();
        Due.done();
    }

    private static CapLeague oneEach(int pay) {
        CapLeague x = Due.withPlayers(16);
        for (int p = 0; p < 16; p++) {
            x.sign(p, p % 8, 3, pay, 0, 50, false);
        }
        return x;
    }

    private static void givePlayers() {
        CapLeague x = Due.withPlayers(3);
        x.sign(0, 0, 1, 1, 0, 0, false);
        x.sign(1, 1, 1, 1, 0, 0, false);
        Due.is("trade", x.trade(), 1);
        Due.is("no player", x.give(3, 0), -2);
        Due.is("no player below", x.give(-1, 0), -2);
        Due.is("no club", x.give(0, 8), -2);
        Due.is("no club below", x.give(0, -1), -2);
        Due.is("no contract", x.give(2, 0), -4);
        Due.is("its own", x.give(0, 0), -4);
        Due.is("first", x.give(0, 1), 1);
        Due.is("moved", x.give(0, 2), -4);
        Due.is("second", x.give(1, 0), 2);
        Due.is("moves", x.count(2), 2);
        Due.is("anew", x.trade(), 1);
        Due.is("no moves", x.count(2), 0);
        Due.is("first again", x.give(0, 2), 1);
    }

    private static void giveTurns() {
        CapLeague x = new CapLeague();
        Due.is("no of", x.giveTurn(8, 0, 0, 0), -2);
        Due.is("no of below", x.giveTurn(-1, 0, 0, 0), -2);
        Due.is("no year", x.giveTurn(0, 10, 1, 0), -2);
        Due.is("no year below", x.giveTurn(0, -1, 1, 0), -2);
        Due.is("no club", x.giveTurn(0, 0, 8, 0), -2);
        Due.is("no club below", x.giveTurn(0, 0, -1, 0), -2);
        Due.is("no k", x.giveTurn(0, 0, 1, 9), -2);
        Due.is("no k below", x.giveTurn(0, 0, 1, -1), -2);
        Due.is("its own", x.giveTurn(0, 0, 0, 0), -4);
        Due.is("first", x.giveTurn(0, 0, 1, 8), 1);
        Due.is("moved", x.giveTurn(0, 0, 2, 0), -4);
        Due.is("another year", x.giveTurn(0, 9, 1, 0), 2);
        Due.is("another club", x.giveTurn(3, 9, 1, 0), 3);
        Due.is("deal", x.deal(), 3);
        Due.is("it belongs to that one", x.giveTurn(0, 9, 1, 0), -4);
        Due.is("protected", x.giveTurn(0, 0, 2, 0), -4);
        Due.is("back to its own club", x.giveTurn(0, 9, 0, 3), 1);
        Due.is("deal back", x.deal(), 1);
        Due.is("by 3", x.owner(0, 9, 1), 3);
        Due.table(x, "ABCDEFGH");
        x.draw(0, 0);
        Due.is("the draft was", x.giveTurn(4, 0, 1, 0), -4);
        x.next();
        Due.is("this year", x.giveTurn(4, 1, 1, 0), 1);
    }

    /** A year gone is no such year, whatever else would refuse a move of its turn. */
    private static void giveTurnOfYearGone() {
        CapLeague x = oneEach(1);
        x.giveTurn(0, 0, 1, 8);
        x.giveTurn(2, 0, 3, 0);
        x.deal();
        Due.table(x, "CBADEFGH");
        x.draw(0, 0);
        Due.is("drawn this year", x.giveTurn(4, 0, 5, 0), -4);
        Due.is("drawn, its own", x.giveTurn(4, 0, 4, 0), -4);
        x.next();
        Due.is("free to give once", x.giveTurn(4, 0, 5, 0), -2);
        Due.is("its own", x.giveTurn(4, 0, 4, 0), -2);
        Due.is("of another one", x.giveTurn(2, 0, 4, 0), -2);
        Due.is("gone back", x.giveTurn(0, 0, 1, 0), -2);
        Due.is("this year, its own", x.giveTurn(4, 1, 4, 0), -4);
        Due.is("its worth is told still", x.worthTurn(5, 4, 0, 7), 0);
        Due.is("and again", x.worthTurn(5, 4, 0, 8), 7);
        for (int year = 1; year < 9; year++) {
            Due.endYear(x);
        }
        Due.is("the last but one", x.giveTurn(4, 8, 5, 0), -2);
        Due.is("the last one", x.giveTurn(4, 9, 5, 0), 1);
        Due.table(x, "ABCDEFGH");
        x.draw(0, 0);
        Due.is("drawn in the last year", x.giveTurn(4, 9, 5, 0), -4);
        Due.is("no moves", x.count(2), 0);
    }

    private static void fourClubsAtMost() {
        CapLeague x = oneEach(1);
        Due.is("0 1", x.give(0, 1), 1);
        Due.is("2 3", x.give(2, 3), 2);
        Due.is("a fifth gets", x.give(8, 4), -4);
        Due.is("a fifth gives", x.give(4, 0), -4);
        Due.is("a fifth gets a turn", x.giveTurn(0, 0, 5, 0), -4);
        Due.is("a fifth gives a turn", x.giveTurn(5, 0, 0, 0), -4);
        Due.is("among four", x.give(8, 3), 3);
        x.trade();
        x.give(0, 1);
        x.give(1, 2);
        Due.is("two more", x.give(3, 4), -4);
        Due.is("one more", x.give(3, 0), 3);
        x.trade();
        x.giveTurn(7, 3, 6, 0);
        x.deal();
        Due.is("from whom it belongs to", x.giveTurn(7, 3, 0, 0), 1);
        x.give(1, 2);
        Due.is("7 is not in it", x.give(7, 0), -4);
    }

    private static void twelveMovesAtMost() {
        CapLeague x = oneEach(1);
        for (int year = 0; year < 10; year++) {
            Due.is("turn " + year, x.giveTurn(0, year, 1, 0), year + 1);
        }
        Due.is("11", x.give(0, 1), 11);
        Due.is("12", x.give(8, 1), 12);
        Due.is("13", x.give(1, 0), -3);
        Due.is("13: a turn", x.giveTurn(1, 0, 0, 0), -3);
        Due.is("range ahead of full", x.give(16, 0), -2);
        Due.is("state ahead of full", x.give(0, 1), -4);
        Due.is("a full one is done", x.deal(), 12);
        Due.is("moves", x.count(2), 0);
    }

    private static void whatBeginsItAnew() {
        CapLeague x = oneEach(1);
        x.player();
        x.give(0, 1);
        x.sign(0, 0, 1, 1, 0, 0, false);
        x.sign(16, 9, 1, 1, 0, 0, false);
        x.waive(16);
        x.draw(0, 0);
        x.next();
        x.hurt(0, true);
        x.choose(0);
        x.laws(0);
        x.table();
        x.ring();
        Due.is("what isn't done leaves it", x.count(2), 1);
        x.sign(16, 0, 1, 1, 0, 0, false);
        Due.is("sign", x.count(2), 0);
        x.give(0, 1);
        x.waive(16);
        Due.is("waive", x.count(2), 0);
        x.give(0, 1);
        Due.table(x, "ABCDEFGH");
        Due.is("table leaves it", x.count(2), 1);
        x.draw(0, 0);
        Due.is("draw", x.count(2), 0);
        x.give(0, 1);
        x.next();
        Due.is("next", x.count(2), 0);
        Due.is("check", x.check(), -4);
        Due.is("deal", x.deal(), -4);
    }

    private static void rosters() {
        CapLeague x = oneEach(1);
        Due.laws(x, 0, "roster 2;");
        x.give(3, 4);
        Due.is("three are too many", x.check(), 401);
        Due.is("not done", x.deal(), 0);
        Due.is("moves stay", x.count(2), 1);
        x.give(4, 5);
        Due.is("now of 5", x.check(), 501);
        x.give(5, 3);
        Due.is("round", x.check(), 0);
        Due.is("done", x.deal(), 3);
        Due.is("3", x.about(3, 0), 4);
        Due.is("4", x.about(4, 0), 5);
        Due.is("5", x.about(5, 0), 3);
        Due.laws(x, 0, "roster 1;");
        x.giveTurn(6, 0, 7, 0);
        Due.is("too many already", x.check(), 601);
    }

    private static void matching() {
        CapLeague x = Due.withPlayers(4);
        x.sign(0, 0, 1, 55, 0, 0, false);
        x.sign(1, 1, 1, 70, 0, 0, false);
        x.sign(2, 0, 1, 45, 0, 0, false);
        x.sign(3, 1, 1, 1, 0, 0, false);
        matched(x, "cap 115;match 0 0;", 0);
        matched(x, "cap 114;match 0 0;", 2);
        matched(x, "cap 114;match 127 0;", 2);
        matched(x, "cap 114;match 127 1;", 0);
        matched(x, "cap 114;match 128 0;", 0);
        matched(x, "cap 114;match 0 70;", 0);
        matched(x, "cap 114;match 0 69;", 2);
        Due.laws(x, 0, "cap 100;");
        x.trade();
        x.give(3, 0);
        Due.is("nothing goes out", x.check(), 2);
        Due.laws(x, 0, "cap 100;match 0 1;");
        Due.is("by the second number", x.check(), 0);
    }

    private static void matched(CapLeague x, String laws, int due) {
        Due.laws(x, 0, laws);
        x.trade();
        x.give(0, 1);
        x.give(1, 0);
        Due.is(laws, x.check(), due);
    }

    private static void matchingOfTheHurt() {
        CapLeague x = Due.withPlayers(2);
        Due.laws(x, 0, "cap 100;hurt 50;match 100 0;");
        x.sign(0, 0, 1, 60, 0, 0, false);
        x.sign(1, 1, 1, 90, 0, 0, false);
        x.hurt(1, true);
        x.give(0, 1);
        x.give(1, 0);
        Due.is("it counts 45", x.check(), 0);
        Due.laws(x, 0, "cap 44;hurt 50;match 100 0;");
        Due.is("above a cap of 44", x.check(), 2);
        Due.laws(x, 0, "cap 44;hurt 50;match 150 0;");
        Due.is("but all of its pay is matched", x.check(), 102 - 102);
        Due.laws(x, 0, "cap 44;hurt 50;match 149 0;");
        Due.is("not quite", x.check(), 2);
    }

    private static void firstByClubs() {
        CapLeague x = oneEach(50);
        Due.laws(x, 0, "cap 100;roster 2;");
        x.give(7, 6);
        x.give(5, 6);
        x.give(15, 2);
        Due.is("2 ahead of 6", x.check(), 201);
        Due.laws(x, 0, "cap 100;roster 3;");
        Due.is("by cap now", x.check(), 202);
        Due.laws(x, 0, "cap 100;roster 3;match 0 50;");
        Due.is("6 with four", x.check(), 601);
        Due.laws(x, 0, "cap 100;roster 4;match 0 50;");
        Due.is("6 above cap", x.check(), 602);
        Due.laws(x, 0, "cap 200;");
        Due.is("legal", x.check(), 0);
    }

    private static void othersAreNotAsked() {
        CapLeague x = oneEach(50);
        x.waive(3);
        x.waive(4);
        x.waive(11);
        x.waive(12);
        Due.laws(x, 0, "roster 1;");
        x.giveTurn(3, 0, 4, 0);
        Due.is("clubs that aren't in it have too many", x.check(), 0);
    }

    private static void gains() {
        CapLeague x = oneEach(1);
        Due.is("no trade", x.gain(0), 0);
        Due.is("worth", x.worth(0, 1, 30), 0);
        Due.is("worth again", x.worth(0, 1, 9999), 30);
        Due.is("worth 0", x.worth(0, 0, 100), 0);
        Due.is("to another", x.worth(1, 0, 7), 0);
        Due.is("turn", x.worthTurn(0, 2, 5, 11), 0);
        Due.is("turn again", x.worthTurn(0, 2, 5, 12), 11);
        Due.is("turn to its club", x.worthTurn(2, 2, 5, 9999), 0);
        x.give(0, 1);
        x.give(1, 0);
        Due.is("0", x.gain(0), 9899);
        Due.is("1", x.gain(1), 7);
        Due.is("2", x.gain(2), 0);
        x.giveTurn(2, 5, 0, 4);
        Due.is("0 with the turn", x.gain(0), 9911);
        Due.is("2 without it", x.gain(2), -9999);
        Due.is("another", x.gain(7), 0);
        Due.is("no club", x.gain(8), -2000000000);
        Due.is("no club below", x.gain(-1), -2000000000);
    }

    private static void gainsOfEachTurn() {
        CapLeague x = new CapLeague();
        for (int of = 0; of < 8; of++) {
            for (int year = 0; year < 10; year += 3) {
                x.worthTurn(of, of, year, 10 + year);
                x.worthTurn((of + 1) % 8, of, year, 100 + year);
                x.trade();
                x.giveTurn(of, year, (of + 1) % 8, 0);
                Due.is("who gives " + of, x.gain(of), -10 - year);
                Due.is("who gets " + of, x.gain((of + 1) % 8), 100 + year);
            }
        }
    }

    private static void worthsOutOfRange() {
        CapLeague x = Due.withPlayers(1);
        Due.is("club", x.worth(8, 0, 0), -2);
        Due.is("club below", x.worth(-1, 0, 0), -2);
        Due.is("player", x.worth(0, 1, 0), -2);
        Due.is("player below", x.worth(0, -1, 0), -2);
        Due.is("n", x.worth(0, 0, 10000), -2);
        Due.is("n below", x.worth(0, 0, -1), -2);
        Due.is("most", x.worth(7, 0, 9999), 0);
        Due.is("as it was", x.worth(7, 0, 0), 9999);
        Due.is("turn club", x.worthTurn(8, 0, 0, 0), -2);
        Due.is("turn club below", x.worthTurn(-1, 0, 0, 0), -2);
        Due.is("turn of", x.worthTurn(0, 8, 0, 0), -2);
        Due.is("turn of below", x.worthTurn(0, -1, 0, 0), -2);
        Due.is("turn year", x.worthTurn(0, 0, 10, 0), -2);
        Due.is("turn year below", x.worthTurn(0, 0, -1, 0), -2);
        Due.is("turn n", x.worthTurn(0, 0, 0, 10000), -2);
        Due.is("turn n below", x.worthTurn(0, 0, 0, -1), -2);
        Due.is("turn edges", x.worthTurn(7, 7, 9, 9999), 0);
        Due.is("turn as it was", x.worthTurn(7, 7, 9, 1), 9999);
        Due.endYear(x);
        Due.is("of a year gone", x.worthTurn(0, 0, 0, 5), 0);
    }

    private static void dealsAreDone() {
        CapLeague x = oneEach(1);
        Due.is("no moves", x.deal(), -4);
        Due.is("nothing to check", x.check(), -4);
        x.give(0, 7);
        x.giveTurn(7, 2, 0, 0);
        x.giveTurn(7, 3, 0, 5);
        Due.is("nothing yet", x.about(0, 0), 0);
        Due.is("its own yet", x.owner(7, 2, 0), 7);
        Due.is("deal", x.deal(), 3);
        Due.is("moved", x.about(0, 0), 7);
        Due.is("belongs", x.owner(7, 2, 0), 0);
        Due.is("unprotected", x.owner(7, 2, 1), 0);
        Due.is("belongs too", x.owner(7, 3, 0), 0);
        Due.is("protected", x.owner(7, 3, 1), 5);
        Due.is("no moves then", x.deal(), -4);
    }

    private static void contractsGoAlong() {
        CapLeague x = Due.withPlayers(1);
        x.sign(0, 0, 3, 100, 10, 50, true);
        x.give(0, 4);
        x.deal();
        Due.is("club", x.about(0, 0), 4);
        Due.is("last", x.about(0, 1), 2);
        Due.is("choice", x.about(0, 2), 1);
        Due.is("pay", x.about(0, 11), 110);
        Due.is("counts there", x.club(4, 1, 0), 110);
        Due.is("not here", x.club(0, 1, 0), 0);
        Due.is("waived", x.waive(0), 105);
        Due.is("dead there", x.club(4, 0, 1), 50);
        Due.is("not dead here", x.club(0, 0, 1), 0);
    }
}
