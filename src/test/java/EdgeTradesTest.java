/** The edges that Terms III and promises 15 to 24 name: one test for each sentence with one. */
public final class EdgeTradesTest {
    private static final int LEAST = Integer.MIN_VALUE;
    private static final int GREATEST = Integer.MAX_VALUE;
    private static final int[] NO_CLUBS = {LEAST, -1, 8, 9, 256, GREATEST};
    private static final int NO_SUM = -2000000000;

    public static void main(String[] args) {
        turnsAreTheirClubsAtFirst();
        tradeIsBegunAnew();
        giveNoSuch();
        giveWithoutContract();
        giveToItsOwnClub();
        giveEachOnce();
        fifthClub();
        thirteenthMove();
        giveTurnNoSuchClubs();
        giveTurnNoSuchYear();
        giveTurnNoSuchProtection();
        giveTurnToWhomItBelongs();
        giveTurnEachOnce();
        giveTurnWhenTheDraftWas();
        giveTurnThatIsProtected();
        giveTurnOfAFifthClub();
        thirteenthMoveOfATurn();
        doneCallsBeginItAnew();
        refusedCallsLeaveIt();
        otherCallsLeaveIt();
        protectedAmongTheFirst();
        goesBackToWhoGaveIt();
        checkWithoutMoves();
        morePlayersThanRoster();
        aboveCap();
        aboveMatchCut();
        rosterAheadOfCap();
        firstByClubs();
        whatOthersGiveIsNotItsOwn();
        paysOfTheHurt();
        gainOfNoSuchClub();
        gainWithoutMoves();
        gainsOfGreatWorths();
        dealIsDone();
        dealThatIsWrong();
        dealWithoutMoves();
        worthAtFirst();
        worthNoSuch();
        worthTurnNoSuch();
        noRing();
        gainOfNothingIsNoRing();
        ringOfTwoOrThree();
        ringsThatAreNotLegal();
        ringsAboveRoster();
        ringsOfSixtyPlayers();
        fewestClubs();
        leastRowOfClubs();
        leastRowOfPlayers();
        ringedOfNothingElse();
        ringedOfTheLatestWithASum();
        Due.done();
    }

    /** Sixteen players, two with each club: p and p + 8 with club p. */
    private static CapLeague pairs(int pay) {
        CapLeague x = Due.withPlayers(17);
        for (int p = 0; p < 16; p++) {
            x.sign(p, p % 8, 3, pay, 0, 50, false);
        }
        return x;
    }

    private static void turnsAreTheirClubsAtFirst() {
        Due.says("Terms III: each CLUB has one in the draft of each YEAR; it belongs to a CLUB (its own at first)");
        CapLeague x = new CapLeague();
        for (int of = 0; of < 8; of++) {
            for (int year = 0; year < 10; year++) {
                Due.is("turn of " + of + " in " + year, x.owner(of, year, 0), of);
                Due.is("not protected", x.owner(of, year, 1), 0);
            }
        }
    }

    private static void tradeIsBegunAnew() {
        Due.says("Promise 15: A TRADE is begun anew (no moves): 1");
        CapLeague x = pairs(1);
        Due.is("with none", x.trade(), 1);
        x.give(0, 1);
        x.giveTurn(2, 0, 3, 0);
        Due.is("with two", x.trade(), 1);
        Due.is("moves", x.count(2), 0);
        Due.is("nothing moved", x.about(0, 0), 0);
        Due.is("it may move", x.give(0, 4), 1);
        Due.is("the turn too", x.giveTurn(2, 0, 5, 0), 2);
        Due.is("the clubs of before are not in it", x.give(1, 6), -4);
    }

    private static void giveNoSuch() {
        Due.says("Promise 16: RANGE: no such PLAYER, CLUB");
        CapLeague x = pairs(1);
        Due.each("player", p -> x.give(p, 1), -2, LEAST, -1, 17, 59, 60, GREATEST);
        Due.each("club", c -> x.give(0, c), -2, NO_CLUBS);
        Due.is("ahead of no contract", x.give(16, 8), -2);
        Due.is("no moves", x.count(2), 0);
        Due.is("the first to the last", x.give(0, 7), 1);
        Due.is("the last to the first", x.give(15, 0), 2);
        Due.is("ahead of moved already", x.give(0, 8), -2);
    }

    private static void giveWithoutContract() {
        Due.says("Promise 16: STATE: no CONTRACT");
        CapLeague x = pairs(1);
        Due.is("none yet", x.give(16, 0), -4);
        x.waive(0);
        Due.is("waived", x.give(0, 1), -4);
        x.sign(0, 5, 1, 1, 0, 0, false);
        Due.is("signed anew", x.give(0, 1), 1);
        Due.endYear(x);
        Due.is("ended", x.give(0, 1), -4);
    }

    private static void giveToItsOwnClub() {
        Due.says("Promise 16: STATE: its own CLUB");
        CapLeague x = pairs(1);
        for (int p = 0; p < 16; p++) {
            Due.is("player " + p, x.give(p, p % 8), -4);
        }
        x.give(0, 1);
        x.deal();
        Due.is("its club now", x.give(0, 1), -4);
        Due.is("its club of before", x.give(0, 0), 1);
    }

    private static void giveEachOnce() {
        Due.says("Promise 16: STATE: moved already; Terms III: (each once)");
        CapLeague x = pairs(1);
        x.give(0, 1);
        Due.is("to the same", x.give(0, 1), -4);
        Due.is("to another one", x.give(0, 2), -4);
        Due.is("to its own", x.give(0, 0), -4);
        Due.is("a turn with its number is another thing", x.giveTurn(0, 0, 1, 0), 2);
        Due.is("another player", x.give(8, 1), 3);
        x.deal();
        Due.is("in another trade", x.give(0, 2), 1);
    }

    private static void fifthClub() {
        Due.says("Promise 16: STATE: a fifth CLUB would be in it; Terms III: 2 .. 4 CLUBS");
        CapLeague x = pairs(1);
        Due.is("two", x.give(0, 1), 1);
        Due.is("three", x.give(1, 2), 2);
        Due.is("two more", x.give(3, 4), -4);
        Due.is("four", x.give(2, 3), 3);
        Due.is("a fifth gets", x.give(8, 4), -4);
        Due.is("a fifth gives", x.give(4, 0), -4);
        Due.is("a fifth and a sixth", x.give(5, 6), -4);
        Due.is("what is refused brings no club", x.give(3, 0), 4);
        Due.is("among the four, to the last", x.give(8, 3), 5);
        Due.is("legal", x.check(), 0);
        Due.is("done", x.deal(), 5);
        Due.is("four others", x.give(4, 5), 1);
        Due.is("the four", x.give(6, 7), 2);
    }

    private static void thirteenthMove() {
        Due.says("Promise 16: FULL: the 13th move; Terms III: at most 12 moves");
        CapLeague x = twelveMoves();
        Due.is("13th", x.give(1, 0), -3);
        Due.is("moves", x.count(2), 12);
        Due.is("no such player is ahead", x.give(17, 0), -2);
        Due.is("moved already is ahead", x.give(0, 1), -4);
        Due.is("done", x.deal(), 12);
        Due.is("the refused one did not move", x.about(1, 0), 1);
        Due.is("a first one", x.give(1, 0), 1);
    }

    /** Two players and ten turns move from 0 to 1. */
    private static CapLeague twelveMoves() {
        CapLeague x = pairs(1);
        x.give(0, 1);
        x.give(8, 1);
        for (int year = 0; year < 10; year++) {
            Due.is("move " + (year + 3), x.giveTurn(0, year, 1, 0), year + 3);
        }
        return x;
    }

    private static void giveTurnNoSuchClubs() {
        Due.says("Promise 17: RANGE: no such CLUBS");
        CapLeague x = new CapLeague();
        Due.each("of", of -> x.giveTurn(of, 0, 1, 0), -2, NO_CLUBS);
        Due.each("club", c -> x.giveTurn(0, 0, c, 0), -2, NO_CLUBS);
        Due.is("a number that would wrap around", x.giveTurn(429496730, 0, 1, 0), -2);
        Due.is("no moves", x.count(2), 0);
        Due.is("the first to the last", x.giveTurn(0, 0, 7, 0), 1);
        Due.is("the last to the first", x.giveTurn(7, 0, 0, 0), 2);
    }

    private static void giveTurnNoSuchYear() {
        Due.says("Promise 17: RANGE: no such YEAR; Terms III: (the CLOCK's one if it isn't DRAWN, or later)");
        CapLeague x = new CapLeague();
        Due.each("year", year -> x.giveTurn(0, year, 1, 0), -2, LEAST, -1, 10, 11, 80, GREATEST);
        for (int clock = 0; clock < 10; clock++) {
            for (int year = 0; year < 10; year++) {
                x.trade();
                Due.is(year + " in " + clock, x.giveTurn(0, year, 1, 0), year < clock ? -2 : 1);
            }
            Due.endYear(x);
        }
    }

    private static void giveTurnNoSuchProtection() {
        Due.says("Promise 17: RANGE: no such k (0 .. 8)");
        CapLeague x = new CapLeague();
        Due.each("k", k -> x.giveTurn(0, 0, 1, k), -2, LEAST, -1, 9, 10, GREATEST);
        for (int k = 0; k <= 8; k++) {
            CapLeague y = new CapLeague();
            Due.is("by " + k, y.giveTurn(0, 0, 1, k), 1);
            y.deal();
            Due.is("protected by", y.owner(0, 0, 1), k);
        }
    }

    private static void giveTurnToWhomItBelongs() {
        Due.says("Promise 17: STATE: it belongs to that one");
        CapLeague x = new CapLeague();
        for (int of = 0; of < 8; of++) {
            Due.is("its own", x.giveTurn(of, 4, of, 0), -4);
        }
        x.giveTurn(0, 4, 1, 0);
        x.deal();
        Due.is("to whom it belongs now", x.giveTurn(0, 4, 1, 0), -4);
        Due.is("protected, to the same", x.giveTurn(0, 4, 1, 5), -4);
        Due.is("back to its own", x.giveTurn(0, 4, 0, 0), 1);
    }

    private static void giveTurnEachOnce() {
        Due.says("Promise 17: STATE: moved already");
        CapLeague x = new CapLeague();
        x.giveTurn(0, 4, 1, 0);
        Due.is("to the same", x.giveTurn(0, 4, 1, 0), -4);
        Due.is("to another one", x.giveTurn(0, 4, 2, 3), -4);
        Due.is("another year's", x.giveTurn(0, 5, 1, 0), 2);
        Due.is("another club's", x.giveTurn(1, 4, 0, 0), 3);
    }

    private static void giveTurnWhenTheDraftWas() {
        Due.says("Promise 17: STATE: the DRAFT was");
        CapLeague x = new CapLeague();
        Due.table(x, "ABCDEFGH");
        Due.is("a table is no draft", x.giveTurn(0, 0, 1, 0), 1);
        x.draw(0, 0);
        for (int of = 0; of < 8; of++) {
            Due.is("drawn", x.giveTurn(of, 0, (of + 1) % 8, 0), -4);
        }
        Due.is("a later one", x.giveTurn(0, 1, 1, 0), 1);
    }

    private static void giveTurnThatIsProtected() {
        Due.says("Promise 17: STATE: it is PROTECTED");
        for (int k = 1; k <= 8; k++) {
            CapLeague x = new CapLeague();
            x.giveTurn(0, 1, 1, k);
            x.deal();
            Due.is("on, by " + k, x.giveTurn(0, 1, 2, 0), -4);
            Due.is("back, by " + k, x.giveTurn(0, 1, 0, 0), -4);
            Due.endYear(x);
            Due.is("in its year", x.giveTurn(0, 1, 2, 0), -4);
            Due.is("another year's", x.giveTurn(0, 2, 2, 0), 1);
        }
        CapLeague x = new CapLeague();
        x.giveTurn(0, 1, 1, 0);
        x.deal();
        Due.is("one that is not", x.giveTurn(0, 1, 2, 0), 1);
    }

    private static void giveTurnOfAFifthClub() {
        Due.says("Promise 17: STATE: a fifth CLUB");
        CapLeague x = pairs(1);
        x.giveTurn(7, 1, 6, 0);
        x.deal();
        x.giveTurn(0, 0, 1, 0);
        x.giveTurn(2, 0, 3, 0);
        Due.is("a fifth gets", x.giveTurn(1, 0, 4, 0), -4);
        Due.is("a fifth gives", x.giveTurn(5, 0, 0, 0), -4);
        Due.is("a fifth has it", x.giveTurn(7, 1, 0, 0), -4);
        Due.is("a fifth gives a player", x.give(4, 0), -4);
        Due.is("among the four", x.giveTurn(3, 0, 0, 0), 3);
        x.trade();
        x.giveTurn(7, 1, 0, 0);
        x.giveTurn(1, 0, 2, 0);
        Due.is("whose it was is not in it: a fifth", x.giveTurn(7, 2, 0, 0), -4);
    }

    private static void thirteenthMoveOfATurn() {
        Due.says("Promise 17: FULL");
        CapLeague x = twelveMoves();
        Due.is("13th", x.giveTurn(1, 0, 0, 0), -3);
        Due.is("no such year is ahead", x.giveTurn(1, 10, 0, 0), -2);
        Due.is("moved already is ahead", x.giveTurn(0, 0, 1, 0), -4);
        Due.is("moves", x.count(2), 12);
        x.deal();
        Due.is("the refused one did not move", x.owner(1, 0, 0), 1);
        Due.is("those of before did", x.owner(0, 9, 0), 1);
    }

    private static void doneCallsBeginItAnew() {
        Due.says("Terms III: sign(), waive(), draw(), next() that are done begin it anew");
        CapLeague x = pairs(1);
        x.give(0, 1);
        x.sign(16, 7, 1, 1, 0, 0, false);
        Due.is("sign", x.count(2), 0);
        x.give(0, 1);
        x.waive(16);
        Due.is("waive", x.count(2), 0);
        x.give(0, 1);
        Due.table(x, "ABCDEFGH");
        x.draw(0, 0);
        Due.is("draw", x.count(2), 0);
        x.give(0, 1);
        x.next();
        Due.is("next", x.count(2), 0);
        Due.is("no moves", x.check(), -4);
        Due.is("the clubs of before are not in it", x.give(2, 3) + x.give(4, 5), 3);
    }

    private static void refusedCallsLeaveIt() {
        Due.says("Terms III: that are done begin it anew: not those that are refused");
        CapLeague x = pairs(1);
        x.give(0, 1);
        Due.is("sign: wrong", x.sign(0, 0, 1, 1, 0, 0, false), 0);
        Due.is("sign: range", x.sign(16, 8, 1, 1, 0, 0, false), -2);
        Due.is("waive: range", x.waive(17), -2);
        Due.is("waive: state", x.waive(16), -4);
        Due.is("draw: range", x.draw(1, 0), -2);
        Due.is("draw: state", x.draw(0, 0), -4);
        Due.is("next: state", x.next(), -4);
        Due.is("moves", x.count(2), 1);
        Due.is("done", x.deal(), 1);
        Due.is("moved", x.about(0, 0), 1);
    }

    private static void otherCallsLeaveIt() {
        Due.says("Terms III: sign(), waive(), draw(), next() begin it anew: no others do");
        CapLeague x = pairs(1);
        x.give(0, 1);
        x.player();
        x.hurt(0, true);
        x.choose(0);
        x.worth(0, 0, 5);
        x.worthTurn(0, 0, 0, 5);
        x.ring();
        x.check();
        x.gain(0);
        Due.laws(x, 0, "cap 500;");
        Due.table(x, "ABCDEFGH");
        x.wrong(16, 0, 1, 1, 0, 0, false);
        Due.is("moves", x.count(2), 1);
    }

    private static void protectedAmongTheFirst() {
        Due.says("Terms III: PROTECTED by k (1 .. 8) goes back, not PROTECTED any more, if it comes among the first k");
        for (int k = 0; k <= 8; k++) {
            for (int place = 0; place < 8; place++) {
                CapLeague x = new CapLeague();
                x.giveTurn(place, 0, (place + 3) % 8, k);
                x.deal();
                Due.is("ahead of the draft", x.owner(place, 0, 0), (place + 3) % 8);
                Due.table(x, "ABCDEFGH");
                Due.is("the table alone moves none", x.owner(place, 0, 0), (place + 3) % 8);
                x.draw(0, 0);
                boolean isBack = place < k;
                int has = isBack ? place : (place + 3) % 8;
                Due.is("belongs, " + place + " by " + k, x.owner(place, 0, 0), has);
                Due.is("who has it, " + place + " by " + k, x.turn(0, place, 1), has);
                Due.is("whose it was by the order", x.turn(0, place, 0), place);
                if (isBack) {
                    Due.is("not protected any more", x.owner(place, 0, 1), 0);
                }
            }
        }
    }

    private static void goesBackToWhoGaveIt() {
        Due.says("Terms III: goes back to who gave it");
        CapLeague x = new CapLeague();
        x.giveTurn(0, 0, 1, 0);
        x.deal();
        x.giveTurn(0, 0, 2, 0);
        x.deal();
        x.giveTurn(0, 0, 3, 1);
        x.deal();
        Due.table(x, "ABCDEFGH");
        x.draw(0, 0);
        Due.is("to the one that gave it with protection", x.owner(0, 0, 0), 2);
        Due.is("who has it", x.turn(0, 0, 1), 2);
        CapLeague y = new CapLeague();
        Due.laws(y, 0, "lots 1 1;");
        y.giveTurn(1, 0, 3, 1);
        y.deal();
        Due.table(y, "ABCDEFGH");
        y.draw(1, 0);
        Due.is("as the order is made, not as the table is", y.owner(1, 0, 0), 1);
    }

    private static void checkWithoutMoves() {
        Due.says("Promise 18: 0; STATE: no moves");
        CapLeague x = pairs(1);
        Due.is("none yet", x.check(), -4);
        x.give(0, 0);
        Due.is("one that was refused", x.check(), -4);
        x.give(0, 1);
        Due.is("one", x.check(), 0);
        x.trade();
        Due.is("begun anew", x.check(), -4);
        Due.laws(x, 0, "roster 1;");
        Due.is("whatever the rosters are", x.check(), -4);
    }

    private static void morePlayersThanRoster() {
        Due.says("Terms III: WRONG: 1 more PLAYERS behind it than roster");
        CapLeague x = pairs(1);
        x.give(0, 1);
        Due.laws(x, 0, "roster 3;");
        Due.is("as many", x.check(), 0);
        Due.laws(x, 0, "roster 2;");
        Due.is("one more", x.check(), 101);
        x.give(1, 0);
        Due.is("one for one", x.check(), 0);
        x.give(9, 0);
        Due.is("the other way", x.check(), 1);
        Due.laws(x, 0, "roster 1;");
        x.trade();
        x.give(7, 6);
        x.give(6, 7);
        Due.is("too many ahead of it too", x.check(), 601);
        x.waive(14);
        x.waive(15);
        x.give(7, 6);
        x.give(6, 7);
        Due.is("one each", x.check(), 0);
    }

    /** Club 0 gives 60 and gets 80; it has 40 more, so that it would count 120. */
    private static int swap(String laws) {
        CapLeague x = Due.withPlayers(3);
        x.sign(0, 0, 1, 60, 0, 0, false);
        x.sign(1, 0, 1, 40, 0, 0, false);
        x.sign(2, 1, 1, 80, 0, 0, false);
        Due.laws(x, 0, laws);
        x.give(0, 1);
        x.give(2, 0);
        return x.check();
    }

    private static void aboveCap() {
        Due.says("Terms III: WRONG: 2 it would COUNT above cap in the CLOCK's YEAR, and the pays that come in ..");
        Due.is("at cap", swap("cap 120;match 0 0;"), 0);
        Due.is("above cap", swap("cap 119;match 0 0;"), 2);
        Due.is("both above cap", swap("cap 59;match 0 0;"), 2);
        Due.is("matched for 0, not for 1", swap("cap 59;match 0 80;"), 0);
        Due.is("not for 1 by 59", swap("cap 59;match 200 59;"), 0);
    }

    private static void aboveMatchCut() {
        Due.says("Terms III: are together above match hundredths (cut) of those that go out, and the second N");
        Due.is("133 of 60: 79", swap("cap 100;match 133 0;"), 2);
        Due.is("133 of 60: 79, and 1", swap("cap 100;match 133 1;"), 0);
        Due.is("134 of 60: 80", swap("cap 100;match 134 0;"), 0);
        Due.is("80", swap("cap 100;match 0 80;"), 0);
        Due.is("79", swap("cap 100;match 0 79;"), 2);
        CapLeague x = pairs(50);
        Due.laws(x, 0, "cap 100;match 300 0;");
        x.give(0, 1);
        Due.is("nothing goes out", x.check(), 102);
        x.give(1, 0);
        x.give(9, 0);
        Due.is("50 for 100", x.check(), 0);
        Due.laws(x, 0, "cap 100;match 199 0;");
        Due.is("99 for 100", x.check(), 2);
        Due.laws(x, 0, "cap 100;match 199 1;");
        Due.is("100 for 100", x.check(), 0);
    }

    private static void rosterAheadOfCap() {
        Due.says("Terms III: or, if not that, 2");
        CapLeague x = pairs(50);
        Due.laws(x, 0, "cap 100;roster 2;match 0 0;");
        x.give(3, 4);
        Due.is("both", x.check(), 401);
        Due.laws(x, 0, "cap 100;roster 3;match 0 0;");
        Due.is("2 alone", x.check(), 402);
        Due.laws(x, 0, "cap 150;roster 2;match 0 0;");
        Due.is("1 alone", x.check(), 401);
        Due.laws(x, 0, "cap 150;roster 3;match 0 0;");
        Due.is("none", x.check(), 0);
    }

    private static void firstByClubs() {
        Due.says("Terms III: the first such by CLUBS: 100 times the CLUB");
        for (int c = 0; c < 7; c++) {
            CapLeague x = pairs(50);
            Due.laws(x, 0, "roster 1;");
            x.giveTurn(7, 0, c, 0);
            Due.is("of " + c + " and 7", x.check(), 100 * c + 1);
            x.waive(c);
            x.waive(c + 8);
            x.giveTurn(7, 0, c, 0);
            Due.is("of 7", x.check(), 701);
        }
        CapLeague x = pairs(50);
        Due.laws(x, 0, "cap 100;match 0 0;");
        x.give(5, 6);
        x.give(7, 2);
        Due.is("of 2, told behind 6", x.check(), 202);
    }

    private static void whatOthersGiveIsNotItsOwn() {
        Due.says("Terms III: WRONG by CLUBS: PLAYERS that come in, those that go out: of the CLUB itself");
        CapLeague x = Due.withPlayers(4);
        x.sign(0, 0, 1, 60, 0, 0, false);
        x.sign(1, 0, 1, 40, 0, 0, false);
        x.sign(2, 2, 1, 80, 0, 0, false);
        x.sign(3, 1, 1, 50, 0, 0, false);
        Due.laws(x, 0, "cap 100;match 100 0;roster 2;");
        x.give(0, 1);
        x.give(2, 0);
        x.give(3, 2);
        Due.is("60 for 80", x.check(), 2);
        Due.laws(x, 0, "cap 120;match 100 0;roster 1;");
        Due.is("one for one, with one more", x.check(), 1);
        Due.laws(x, 0, "cap 120;match 100 0;roster 2;");
        Due.is("none", x.check(), 0);
    }

    private static void paysOfTheHurt() {
        Due.says("Terms III: it would COUNT above cap, and the pays: COUNTS are less by the hurt, pays are not");
        CapLeague x = Due.withPlayers(2);
        x.sign(0, 0, 1, 100, 0, 0, false);
        x.sign(1, 1, 1, 200, 0, 0, false);
        Due.laws(x, 0, "cap 100;hurt 50;match 100 0;");
        x.give(0, 1);
        x.give(1, 0);
        Due.is("it would count 200", x.check(), 2);
        x.hurt(1, true);
        Due.is("it would count 100", x.check(), 0);
        Due.laws(x, 0, "cap 99;hurt 50;match 199 0;");
        Due.is("it comes in with all of its pay", x.check(), 2);
        Due.laws(x, 0, "cap 99;hurt 50;match 200 0;");
        Due.is("and goes out with all of its pay", x.check(), 0);
    }

    private static void gainOfNoSuchClub() {
        Due.says("Promise 19: RANGE (-2000000000)");
        CapLeague x = pairs(1);
        Due.each("gain", x::gain, NO_SUM, NO_CLUBS);
        x.give(0, 1);
        Due.each("gain with a move", x::gain, NO_SUM, NO_CLUBS);
    }

    private static void gainWithoutMoves() {
        Due.says("Promise 19: GAIN of a CLUB by the TRADE: by none, 0");
        CapLeague x = pairs(1);
        x.worth(0, 1, 50);
        x.worth(2, 1, 70);
        x.worthTurn(2, 1, 3, 80);
        Due.each("gain", x::gain, 0, 0, 1, 2, 3, 4, 5, 6, 7);
        x.give(1, 0);
        x.giveTurn(1, 3, 0, 0);
        Due.is("with one", x.gain(0), 50);
        Due.is("of who gives what is worth nothing to it", x.gain(1), 0);
        Due.is("of one that is not in it", x.gain(2), 0);
        x.trade();
        Due.is("begun anew", x.gain(0), 0);
    }

    private static void gainsOfGreatWorths() {
        Due.says("Terms III: GAIN: the WORTHS (to it) of what comes in less what goes out");
        CapLeague x = pairs(1);
        for (int year = 0; year < 10; year++) {
            x.worthTurn(0, 0, year, 9999);
            x.worthTurn(1, 0, year, 9999);
            x.giveTurn(0, year, 1, 0);
        }
        x.worth(0, 0, 9999);
        x.worth(1, 0, 9999);
        x.worth(0, 8, 9999);
        x.worth(1, 8, 9999);
        x.give(0, 1);
        x.give(8, 1);
        Due.is("twelve go out", x.gain(0), -119988);
        Due.is("twelve come in", x.gain(1), 119988);
    }

    private static void dealIsDone() {
        Due.says("Promise 20: The TRADE is done: how many moves (it has none then)");
        CapLeague x = twelveMoves();
        Due.is("twelve", x.deal(), 12);
        Due.is("none then", x.count(2), 0);
        Due.is("0", x.about(0, 0), 1);
        Due.is("8", x.about(8, 0), 1);
        for (int year = 0; year < 10; year++) {
            Due.is("turn of " + year, x.owner(0, year, 0), 1);
        }
        Due.is("its clubs are free", x.give(2, 3), 1);
        Due.is("one", x.deal(), 1);
    }

    private static void dealThatIsWrong() {
        Due.says("Promise 20: 0: something is WRONG");
        CapLeague x = pairs(1);
        Due.laws(x, 0, "roster 2;");
        x.giveTurn(5, 0, 4, 3);
        x.give(0, 1);
        Due.is("deal", x.deal(), 0);
        Due.is("moves stay", x.count(2), 2);
        Due.is("not moved", x.about(0, 0), 0);
        Due.is("nor the turn", x.owner(5, 0, 0), 5);
        Due.laws(x, 0, "");
        Due.is("when it is not any more", x.deal(), 2);
        Due.is("moved", x.about(0, 0), 1);
        Due.is("protected", x.owner(5, 0, 1), 3);
    }

    private static void dealWithoutMoves() {
        Due.says("Promise 20: STATE: no moves");
        CapLeague x = pairs(1);
        Due.is("none yet", x.deal(), -4);
        x.give(0, 1);
        x.deal();
        Due.is("none any more", x.deal(), -4);
        Due.laws(x, 0, "roster 1;");
        Due.is("whatever the rosters are", x.deal(), -4);
    }

    private static void worthAtFirst() {
        Due.says("Terms III: WORTH (0 .. 9999; 0 at first); Promise 21, 22: what it was");
        CapLeague x = Due.withPlayers(2);
        for (int c = 0; c < 8; c++) {
            Due.is("player to " + c, x.worth(c, 1, 9999), 0);
            Due.is("turn to " + c, x.worthTurn(c, 7, 9, 9999), 0);
        }
        for (int c = 0; c < 8; c++) {
            Due.is("another player to " + c, x.worth(c, 0, 0), 0);
            Due.is("another turn to " + c, x.worthTurn(c, 7, 8, 0), 0);
            Due.is("player to " + c + " again", x.worth(c, 1, c), 9999);
            Due.is("turn to " + c + " again", x.worthTurn(c, 7, 9, c), 9999);
        }
        Due.is("told to 7", x.worth(7, 1, 0), 7);
        Due.is("told to 0", x.worth(0, 1, 0), 0);
    }

    private static void worthNoSuch() {
        Due.says("Promise 21: RANGE");
        CapLeague x = Due.withPlayers(2);
        x.worth(0, 0, 77);
        Due.each("club", c -> x.worth(c, 0, 5), -2, NO_CLUBS);
        Due.each("player", p -> x.worth(0, p, 5), -2, LEAST, -1, 2, 59, 60, GREATEST);
        Due.each("n", n -> x.worth(0, 0, n), -2, LEAST, -1, 10000, GREATEST);
        Due.is("as it was", x.worth(0, 0, 0), 77);
    }

    private static void worthTurnNoSuch() {
        Due.says("Promise 22: RANGE");
        CapLeague x = new CapLeague();
        x.worthTurn(0, 0, 0, 77);
        Due.each("club", c -> x.worthTurn(c, 0, 0, 5), -2, NO_CLUBS);
        Due.each("of", of -> x.worthTurn(0, of, 0, 5), -2, NO_CLUBS);
        Due.each("year", year -> x.worthTurn(0, 0, year, 5), -2, LEAST, -1, 10, 11, 80, GREATEST);
        Due.each("n", n -> x.worthTurn(0, 0, 0, n), -2, LEAST, -1, 10000, GREATEST);
        Due.is("as it was", x.worthTurn(0, 0, 0, 0), 77);
    }

    private static void ringIs(CapLeague x, int sum, int... row) {
        Due.is("ring", x.ring(), sum);
        int clubs = row.length / 2;
        Due.is("clubs", x.ringed(0), clubs);
        for (int i = 0; i < clubs; i++) {
            Due.is("club " + i, x.ringed(1 + i), row[i]);
            Due.is("player " + i, x.ringed(4 + i), row[clubs + i]);
        }
    }

    /** Worths are rows of club, player, worth. */
    private static CapLeague worths(int[]... rows) {
        CapLeague x = pairs(10);
        for (int[] row : rows) {
            x.worth(row[0], row[1], row[2]);
        }
        return x;
    }

    private static void noRing() {
        Due.says("Promise 23: NONE: there is none");
        Due.is("no players", new CapLeague().ring(), -1);
        Due.is("no contracts", Due.withPlayers(5).ring(), -1);
        Due.is("no worths", pairs(10).ring(), -1);
        Due.is("one gain", worths(new int[] {0, 1, 9999}).ring(), -1);
        Due.is("two of one club", worths(new int[] {0, 0, 5}, new int[] {0, 8, 9}).ring(), -1);
        CapLeague x = worths(new int[] {0, 1, 5}, new int[] {1, 0, 5});
        x.waive(0);
        Due.is("one without a contract", x.ring(), -1);
    }

    private static void gainOfNothingIsNoRing() {
        Due.says("Terms III: by which each of its CLUBS has a GAIN above 0");
        Due.is("0 for one", worths(new int[] {0, 1, 9999}, new int[] {1, 0, 5}, new int[] {1, 1, 5},
                new int[] {1, 9, 5}).ring(), -1);
        ringIs(worths(new int[] {0, 1, 9999}, new int[] {1, 0, 6}, new int[] {1, 1, 5}, new int[] {1, 9, 5}),
                10000, 0, 1, 0, 1);
        Due.is("0 for one of three", worths(new int[] {1, 0, 50}, new int[] {2, 1, 50}).ring(), -1);
        ringIs(worths(new int[] {1, 0, 50}, new int[] {2, 1, 50}, new int[] {0, 2, 1}), 101, 0, 1, 2, 0, 1, 2);
    }

    private static void ringOfTwoOrThree() {
        Due.says("Terms III: RING: two or three CLUBS, each gives one PLAYER to the next one in it");
        ringIs(worths(new int[] {6, 7, 1}, new int[] {7, 6, 1}), 2, 6, 7, 6, 7);
        ringIs(worths(new int[] {6, 5, 1}, new int[] {7, 6, 1}, new int[] {5, 7, 1}), 3, 5, 6, 7, 5, 6, 7);
        ringIs(worths(new int[] {7, 5, 1}, new int[] {6, 7, 1}, new int[] {5, 6, 1}), 3, 5, 7, 6, 5, 7, 6);
        int[][] others = {{4, 1, 5}, {6, 4, 5}, {1, 6, 5}, {3, 0, 9}, {5, 0, 9}, {0, 5, 0}};
        ringIs(worths(others), 15, 1, 4, 6, 1, 4, 6);
        int[][] four = {{1, 0, 9}, {2, 1, 9}, {3, 2, 9}, {0, 3, 9}};
        Due.is("four clubs", worths(four).ring(), -1);
    }

    private static void ringsThatAreNotLegal() {
        Due.says("Terms III: BEST: of all RINGS that are legal");
        CapLeague x = Due.withPlayers(4);
        int[] pays = {50, 60, 50, 50};
        for (int p = 0; p < 4; p++) {
            x.sign(p, p, 1, pays[p], 0, 0, false);
        }
        x.worth(0, 1, 100);
        x.worth(1, 0, 100);
        x.worth(2, 3, 1);
        x.worth(3, 2, 1);
        Due.laws(x, 0, "cap 60;match 0 0;");
        ringIs(x, 200, 0, 1, 0, 1);
        Due.laws(x, 0, "cap 59;match 119 0;");
        ringIs(x, 2, 2, 3, 2, 3);
        Due.laws(x, 0, "cap 59;match 120 0;");
        ringIs(x, 200, 0, 1, 0, 1);
        Due.laws(x, 0, "cap 49;match 99 0;");
        Due.is("none is legal", x.ring(), -1);
        Due.laws(x, 0, "roster 1;");
        ringIs(x, 200, 0, 1, 0, 1);
    }

    private static void ringsAboveRoster() {
        Due.says("Terms III: RINGS that are legal: 1 more PLAYERS behind it than roster");
        CapLeague x = worths(new int[] {0, 1, 9}, new int[] {1, 0, 9});
        Due.laws(x, 0, "roster 2;");
        ringIs(x, 18, 0, 1, 0, 1);
        Due.laws(x, 0, "roster 1;");
        Due.is("two each", x.ring(), -1);
        x.waive(8);
        Due.is("two of one", x.ring(), -1);
        x.waive(9);
        ringIs(x, 18, 0, 1, 0, 1);
    }

    /** The last players of a full league, by clubs and by numbers, are in it. */
    private static void ringsOfSixtyPlayers() {
        Due.says("Terms II, III: PLAYERS, at most 60; BEST: of all RINGS");
        CapLeague x = Due.withPlayers(60);
        for (int p = 0; p < 60; p++) {
            x.sign(p, 7 - p / 8, 1, 1, 0, 0, false);
        }
        x.worth(0, 7, 5);
        x.worth(7, 59, 5);
        ringIs(x, 10, 0, 7, 59, 7);
        x.worth(0, 0, 6);
        ringIs(x, 11, 0, 7, 59, 0);
        x.worth(3, 59, 40);
        x.worth(7, 39, 40);
        ringIs(x, 86, 0, 3, 7, 59, 39, 0);
    }

    private static void fewestClubs() {
        Due.says("Terms III: with the greatest sum of GAINS; of these the fewest CLUBS");
        int[][] even = {{1, 0, 2}, {2, 1, 2}, {0, 2, 2}, {6, 7, 3}, {7, 6, 3}};
        ringIs(worths(even), 6, 6, 7, 6, 7);
        int[][] more = {{1, 0, 2}, {2, 1, 2}, {0, 2, 3}, {6, 7, 3}, {7, 6, 3}};
        ringIs(worths(more), 7, 0, 1, 2, 0, 1, 2);
    }

    private static void leastRowOfClubs() {
        Due.says("Terms III: then the least row of CLUBS (the ring begins with its least one)");
        int[][] twos = {{2, 3, 1}, {3, 2, 1}, {1, 7, 1}, {7, 1, 1}, {1, 6, 1}, {6, 1, 1}};
        ringIs(worths(twos), 2, 1, 6, 1, 6);
        int[][] ways = {{3, 1, 1}, {5, 3, 1}, {1, 5, 1}, {5, 1, 1}, {3, 5, 1}, {1, 3, 1}};
        ringIs(worths(ways), 3, 1, 3, 5, 1, 3, 5);
        int[][] threes = {{3, 9, 5}, {5, 3, 5}, {1, 5, 5}, {5, 9, 5}, {3, 5, 5}, {1, 3, 5}};
        ringIs(worths(threes), 15, 1, 3, 5, 9, 3, 5);
    }

    private static void leastRowOfPlayers() {
        Due.says("Terms III: then of PLAYERS (as these give)");
        int[][] all = {{2, 4, 1}, {2, 12, 1}, {4, 2, 1}, {4, 10, 1}};
        ringIs(worths(all), 2, 2, 4, 2, 4);
        int[][] later = {{2, 4, 1}, {2, 12, 1}, {4, 2, 1}, {4, 10, 2}};
        ringIs(worths(later), 3, 2, 4, 10, 4);
        int[][] second = {{2, 4, 1}, {2, 12, 2}, {4, 2, 1}, {4, 10, 1}};
        ringIs(worths(second), 3, 2, 4, 2, 12);
        int[][] three = {{2, 1, 1}, {2, 9, 1}, {3, 2, 1}, {3, 10, 1}, {1, 3, 1}, {1, 11, 1}};
        ringIs(worths(three), 3, 1, 2, 3, 1, 2, 3);
        CapLeague x = Due.withPlayers(4);
        for (int p = 0; p < 4; p++) {
            x.sign(p, p < 2 ? 1 : 0, 1, 10, 0, 0, false);
            x.worth(p < 2 ? 0 : 1, p, 5);
        }
        ringIs(x, 10, 0, 1, 2, 0);
    }

    private static void ringedOfNothingElse() {
        Due.says("Promise 24: NONE when there is none such");
        CapLeague x = new CapLeague();
        Due.each("ahead of any", x::ringed, -1, LEAST, -1, 0, 1, 2, 3, 4, 5, 6, 7, GREATEST);
        x.ring();
        Due.each("without a sum", x::ringed, -1, LEAST, -1, 0, 1, 2, 3, 4, 5, 6, 7, GREATEST);
        CapLeague two = worths(new int[] {0, 1, 5}, new int[] {1, 0, 5});
        two.ring();
        Due.each("of two", two::ringed, -1, LEAST, LEAST + 3, LEAST + 4, -1, 3, 6, 7, 8, GREATEST);
        CapLeague three = worths(new int[] {1, 0, 5}, new int[] {2, 1, 5}, new int[] {0, 2, 5});
        three.ring();
        Due.is("the third", three.ringed(3), 2);
        Due.is("its player", three.ringed(6), 2);
        Due.each("of three", three::ringed, -1, LEAST, LEAST + 3, LEAST + 4, -1, 7, 8, GREATEST);
    }

    private static void ringedOfTheLatestWithASum() {
        Due.says("Promise 24: Of the latest ring() that told a sum");
        CapLeague x = worths(new int[] {1, 0, 5}, new int[] {2, 1, 5}, new int[] {0, 2, 5});
        x.ring();
        x.worth(0, 2, 0);
        Due.is("none", x.ring(), -1);
        Due.is("three still", x.ringed(0), 3);
        Due.is("the last still", x.ringed(3), 2);
        x.worth(7, 6, 1);
        x.worth(6, 7, 1);
        Due.is("two are told by ring() alone", x.ringed(0), 3);
        ringIs(x, 2, 6, 7, 6, 7);
        Due.is("no third", x.ringed(3), -1);
        Due.is("nor its player", x.ringed(6), -1);
        x.waive(6);
        Due.endYear(x);
        Due.is("two still", x.ringed(0), 2);
    }
}
