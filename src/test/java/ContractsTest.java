/** Promises 7 to 14: players, contracts, what counts. */
public final class ContractsTest {
    public static void main(String[] args) {
        sixtyPlayers();
        termsOutOfRange();
        whatIsWrong();
        spare();
        spareWithoutPay();
        spareOfEachClub();
        pays();
        choices();
        choicesLeft();
        waivers();
        waiverBehindTheLastYear();
        theHurt();
        contractsEnd();
        aboutNoOne();
        clubOutOfRange();
        Due.done();
    }

    private static void sixtyPlayers() {
        CapLeague x = new CapLeague();
        for (int i = 0; i < 60; i++) {
            Due.is("player " + i, x.player(), i);
        }
        Due.is("player 60", x.player(), -3);
        Due.is("players", x.count(1), 60);
        Due.is("the last one signs", x.sign(59, 7, 1, 0, 0, 0, false), 1);
    }

    private static void termsOutOfRange() {
        CapLeague x = Due.withPlayers(1);
        Due.laws(x, 0, "cap 50000;years 5;");
        range(x, -1, 0, 1, 1, 0, 0, false);
        range(x, 1, 0, 1, 1, 0, 0, false);
        range(x, Integer.MAX_VALUE, 0, 1, 1, 0, 0, false);
        range(x, 0, -1, 1, 1, 0, 0, false);
        range(x, 0, 8, 1, 1, 0, 0, false);
        range(x, 0, 0, 0, 1, 0, 0, false);
        range(x, 0, 0, 6, 1, 0, 0, false);
        range(x, 0, 0, 1, -1, 0, 0, false);
        range(x, 0, 0, 1, 20001, 0, 0, false);
        range(x, 0, 0, 1, 1, -501, 0, false);
        range(x, 0, 0, 1, 1, 501, 0, false);
        range(x, 0, 0, 1, 1, 0, -1, false);
        range(x, 0, 0, 1, 1, 0, 101, false);
        range(x, 0, 0, 1, 1, 0, 0, true);
        Due.is("still without a club", x.about(0, 0), -1);
        Due.is("edges", x.wrong(0, 7, 5, 20000, 500, 100, true), 0);
        Due.is("other edges", x.wrong(0, 0, 2, 0, -500, 0, true), 0);
        Due.is("sign edges", x.sign(0, 7, 5, 20000, 500, 100, true), 1);
        Due.is("last pay", x.about(0, 14), 22000);
        Due.is("behind it", x.about(0, 15), 0);
    }

    private static void range(CapLeague x, int p, int c, int years, int pay, int rise, int sure, boolean choice) {
        String call = "(" + p + " " + c + " " + years + " " + pay + " " + rise + " " + sure + " " + choice + ")";
        Due.is("wrong" + call, x.wrong(p, c, years, pay, rise, sure, choice), -2);
        Due.is("sign" + call, x.sign(p, c, years, pay, rise, sure, choice), -2);
    }

    private static void whatIsWrong() {
        CapLeague x = Due.withPlayers(4);
        Due.laws(x, 0, "cap 100;roster 2;years 3;");
        Due.is("to the cap", x.wrong(0, 0, 3, 100, 0, 0, false), 0);
        Due.is("above cap", x.wrong(0, 0, 3, 101, 0, 0, false), 8);
        Due.is("years", x.wrong(0, 0, 4, 100, 0, 0, false), 4);
        Due.is("years and cap", x.sign(0, 0, 4, 101, 0, 0, false), 0);
        Due.is("nothing signed", x.about(0, 0), -1);
        Due.is("sign", x.sign(0, 0, 3, 60, 0, 0, false), 1);
        Due.is("has one", x.wrong(0, 1, 1, 10, 0, 0, false), 1);
        Due.is("has one: not signed", x.sign(0, 1, 1, 10, 0, 0, false), 0);
        Due.is("has one, and above", x.wrong(0, 0, 1, 41, 0, 0, false), 9);
        Due.is("sign 1", x.sign(1, 0, 1, 40, 0, 0, false), 1);
        Due.is("roster", x.wrong(2, 0, 1, 0, 0, 0, false), 2);
        Due.is("all", x.wrong(1, 0, 5, 1, 0, 0, false), 15);
        Due.laws(x, 0, "cap 100;roster 1;");
        Due.is("a roster told lower", x.wrong(2, 0, 4, 0, 0, 0, false), 2);
        Due.laws(x, 1, "roster 9;cap 1000;");
        Due.is("laws of the clock's year", x.wrong(2, 0, 4, 1, 0, 0, false), 10);
    }

    private static void spare() {
        CapLeague x = Due.withPlayers(5);
        Due.laws(x, 0, "cap 100;spare 20;");
        x.sign(0, 3, 1, 100, 0, 0, false);
        Due.is("at the cap nothing is used", x.club(3, 0, 3), 0);
        Due.is("above spare", x.wrong(1, 3, 1, 21, 0, 0, false), 8);
        Due.is("by spare", x.sign(1, 3, 2, 20, 0, 0, false), 1);
        Due.is("used", x.club(3, 0, 3), 1);
        Due.is("not of another year", x.club(3, 1, 3), 0);
        Due.is("not of another club", x.club(2, 0, 3), 0);
        Due.is("not twice", x.wrong(2, 3, 1, 1, 0, 0, false), 8);
        Due.is("not twice, without pay", x.wrong(2, 3, 1, 0, 0, 0, false), 8);
        Due.endYear(x);
        Due.is("free again", x.club(3, 1, 3), 0);
        Due.is("below cap", x.sign(2, 3, 1, 80, 0, 0, false), 1);
        Due.is("by spare again", x.sign(3, 3, 1, 5, 0, 0, false), 1);
        Due.is("used again", x.club(3, 1, 3), 1);
    }

    private static void spareWithoutPay() {
        CapLeague x = Due.withPlayers(3);
        x.sign(0, 0, 1, 1000, 0, 0, false);
        Due.laws(x, 0, "cap 10;");
        Due.is("0 is not above a spare of 0", x.sign(1, 0, 1, 0, 0, 0, false), 1);
        Due.is("and uses it", x.club(0, 0, 3), 1);
        Due.is("once", x.sign(2, 0, 1, 0, 0, 0, false), 0);
    }

    private static void spareOfEachClub() {
        CapLeague x = Due.withPlayers(8);
        Due.laws(x, 0, "cap 1;spare 20;");
        for (int c = 0; c < 8; c++) {
            Due.is("by spare " + c, x.sign(c, c, 1, 20, 0, 0, false), 1);
            Due.is("used " + c, x.club(c, 0, 3), 1);
        }
        Due.endYear(x);
        for (int c = 0; c < 8; c++) {
            Due.is("free " + c, x.club(c, 1, 3), 0);
            Due.is("by spare again " + c, x.sign(c, c, 1, 20, 0, 0, false), 1);
        }
    }

    private static void pays() {
        CapLeague x = Due.withPlayers(3);
        x.sign(0, 2, 4, 100, 25, 30, false);
        x.sign(1, 2, 4, 70, -30, 0, false);
        long[] rising = {100, 125, 150, 175, 0};
        long[] falling = {70, 40, 10, 0, 0};
        for (int year = 0; year < rising.length; year++) {
            Due.is("rising " + year, x.about(0, 10 + year), rising[year]);
            Due.is("falling " + year, x.about(1, 10 + year), falling[year]);
            Due.is("counts " + year, x.club(2, year, 0), rising[year] + falling[year]);
            Due.is("players " + year, x.club(2, year, 2), year < 4 ? 2 : 0);
        }
        Due.is("last", x.about(0, 1), 3);
        Due.is("sure", x.about(0, 3), 30);
        Due.endYear(x);
        Due.is("a year gone", x.about(0, 10), 100);
        Due.is("the same year", x.about(0, 11), 125);
        x.sign(2, 2, 2, 9, 1, 0, false);
        Due.is("ahead of it", x.about(2, 10), 0);
        Due.is("from the clock's on", x.about(2, 11), 9);
        Due.is("and on", x.about(2, 12), 10);
        Due.is("last of it", x.about(2, 1), 2);
    }

    private static void choices() {
        CapLeague x = Due.withPlayers(3);
        Due.is("no contract", x.choose(0), -4);
        Due.is("no player", x.choose(3), -2);
        Due.is("no player below", x.choose(-1), -2);
        x.sign(0, 1, 3, 50, 5, 100, true);
        x.sign(1, 1, 3, 50, 5, 100, false);
        Due.is("open", x.about(0, 2), 1);
        Due.is("none", x.about(1, 2), 0);
        Due.is("its pay is told", x.about(0, 12), 60);
        Due.is("but doesn't count", x.club(1, 2, 0), 60);
        Due.is("nor its player", x.club(1, 2, 2), 1);
        Due.is("too early", x.choose(0), -4);
        Due.is("no choice", x.choose(1), -4);
        Due.endYear(x);
        Due.is("no choice still", x.choose(1), -4);
        Due.is("taken", x.choose(0), 1);
        Due.is("taken already", x.choose(0), -4);
        Due.is("not open", x.about(0, 2), 0);
        Due.is("counts", x.club(1, 2, 0), 120);
        Due.is("players", x.club(1, 2, 2), 2);
        Due.endYear(x);
        Due.is("goes on", x.about(0, 0), 1);
        Due.is("last year", x.about(0, 1), 2);
        Due.endYear(x);
        Due.is("is over", x.about(0, 0), -1);
        Due.is("no last year", x.about(0, 1), -1);
    }

    private static void choicesLeft() {
        CapLeague x = Due.withPlayers(1);
        x.sign(0, 1, 2, 50, 5, 100, true);
        Due.is("last with the choice", x.about(0, 1), 1);
        Due.endYear(x);
        Due.is("over ahead of it", x.about(0, 0), -1);
        Due.is("no choice left", x.about(0, 2), 0);
        Due.is("no pay left", x.about(0, 11), 0);
        Due.is("no one left", x.club(1, 1, 2), 0);
        Due.is("signs anew", x.sign(0, 2, 1, 1, 0, 0, false), 1);
    }

    private static void waivers() {
        CapLeague x = Due.withPlayers(4);
        Due.is("no player", x.waive(4), -2);
        Due.is("no player below", x.waive(-1), -2);
        Due.is("no contract", x.waive(0), -4);
        x.sign(0, 5, 3, 101, 1, 33, false);
        x.sign(1, 5, 3, 10, 0, 100, true);
        Due.is("33, 33 and 33", x.waive(0), 99);
        Due.is("twice", x.waive(0), -4);
        Due.is("without a club", x.about(0, 0), -1);
        Due.is("without sure", x.about(0, 3), 0);
        Due.is("dead 0", x.club(5, 0, 1), 33);
        Due.is("dead 2", x.club(5, 2, 1), 33);
        Due.is("dead 3", x.club(5, 3, 1), 0);
        Due.is("counts", x.club(5, 0, 0), 43);
        Due.is("players", x.club(5, 0, 2), 1);
        Due.endYear(x);
        Due.is("of this year alone: the choice isn't taken", x.waive(1), 10);
        Due.is("dead 1", x.club(5, 1, 1), 43);
        Due.is("dead 2 as it was", x.club(5, 2, 1), 33);
        Due.is("dead money is in the way", x.wrong(2, 5, 1, 958, 0, 0, false), 8);
        Due.is("up to it", x.wrong(2, 5, 1, 957, 0, 0, false), 0);
        x.sign(2, 5, 2, 40, 0, 50, true);
        x.choose(2);
        Due.is("a choice that is taken", x.waive(2), 40);
        x.sign(3, 5, 1, 40, 0, 0, false);
        Due.is("nothing sure", x.waive(3), 0);
    }

    private static void waiverBehindTheLastYear() {
        CapLeague x = Due.withPlayers(2);
        for (int year = 1; year <= 8; year++) {
            Due.is("next", Due.endYear(x), year);
        }
        Due.is("for five years", Due.laws(x, 8, "years 5;"), 1);
        Due.is("sign", x.sign(0, 0, 5, 100, 10, 50, false), 1);
        Due.is("its last", x.about(0, 1), 12);
        Due.is("pay of year 9", x.about(0, 19), 110);
        Due.is("no year 10", x.about(0, 20), -9);
        Due.is("years 8 and 9", x.waive(0), 105);
        Due.is("dead 8", x.club(0, 8, 1), 50);
        Due.is("dead 9", x.club(0, 9, 1), 55);
        Due.endYear(x);
        x.sign(1, 0, 2, 10, 0, 0, true);
        Due.is("a choice behind the last year", x.choose(1), 1);
    }

    private static void theHurt() {
        CapLeague x = Due.withPlayers(2);
        Due.laws(x, 0, "hurt 33;");
        Due.is("no player", x.hurt(2, true), -2);
        Due.is("no player below", x.hurt(-1, false), -2);
        Due.is("not hurt already", x.hurt(0, false), 0);
        Due.is("hurt without a club", x.hurt(0, true), 1);
        Due.is("hurt already", x.hurt(0, true), 0);
        Due.is("about", x.about(0, 4), 1);
        x.sign(0, 0, 2, 10, 0, 100, false);
        Due.is("3 less", x.club(0, 0, 0), 7);
        Due.is("not later", x.club(0, 1, 0), 10);
        Due.is("its pay as it was", x.about(0, 10), 10);
        Due.is("better", x.hurt(0, false), 1);
        Due.is("all of it", x.club(0, 0, 0), 10);
        x.hurt(0, true);
        Due.laws(x, 1, "hurt 100;");
        Due.is("by the clock's laws", x.club(0, 0, 0), 7);
        Due.endYear(x);
        Due.is("none is hurt then", x.about(0, 4), 0);
        Due.is("counts", x.club(0, 1, 0), 10);
        x.hurt(0, true);
        Due.is("nothing counts", x.club(0, 1, 0), 0);
        Due.is("waived in full", x.waive(0), 10);
        Due.is("hurt still", x.about(0, 4), 1);
    }

    private static void contractsEnd() {
        CapLeague x = Due.withPlayers(2);
        x.sign(0, 0, 1, 10, 0, 10, false);
        x.sign(1, 0, 2, 20, 0, 10, false);
        Due.endYear(x);
        Due.is("over", x.about(0, 0), -1);
        Due.is("goes on", x.about(1, 0), 0);
        Due.is("no dead money", x.club(0, 1, 1), 0);
        Due.is("counts", x.club(0, 1, 0), 20);
    }

    private static void aboutNoOne() {
        CapLeague x = Due.withPlayers(1);
        long[] due = {-1, -1, 0, 0, 0, -9, -9, -9, -9, -9, 0};
        for (int what = 0; what < due.length; what++) {
            Due.is("about " + what, x.about(0, what), due[what]);
        }
        Due.is("year 9", x.about(0, 19), 0);
        Due.is("no year 10", x.about(0, 20), -9);
        Due.is("below", x.about(0, -1), -9);
        Due.is("most", x.about(0, Integer.MAX_VALUE), -9);
        Due.is("no player", x.about(1, 0), -9);
        Due.is("no player below", x.about(-1, 0), -9);
    }

    private static void clubOutOfRange() {
        CapLeague x = new CapLeague();
        Due.is("-1", x.club(-1, 0, 0), -2);
        Due.is("8", x.club(8, 0, 0), -2);
        Due.is("year -1", x.club(0, -1, 0), -2);
        Due.is("year 10", x.club(0, 10, 0), -2);
        Due.is("what 4", x.club(0, 0, 4), -2);
        Due.is("what -1", x.club(0, 0, -1), -2);
        Due.is("the last", x.club(7, 9, 3), 0);
        Due.endYear(x);
        Due.is("a year gone", x.club(0, 0, 0), -2);
        Due.is("this one", x.club(0, 1, 0), 0);
    }
}
