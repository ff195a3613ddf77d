/** Promises 30 to 32: the year's end, fines, counts. */
public final class YearEndTest {
    public static void main(String[] args) {
        tenYears();
        finesAreShared();
        finesOfAll();
        finesOfAllButOne();
        withoutTax();
        finesAddUp();
        theHurtAndTheDead();
        pursesOutOfRange();
        countsOutOfRange();
        Due.done();
    }

    private static void tenYears() {
        CapLeague x = new CapLeague();
        Due.is("not drawn", x.next(), -4);
        Due.table(x, "ABCDEFGH");
        Due.is("a table is no draft", x.next(), -4);
        x.draw(0, 0);
        for (int year = 1; year <= 9; year++) {
            Due.is("next", x.next(), year);
            Due.is("year", x.count(0), year);
            Due.is("not drawn " + year, x.next(), -4);
            Due.table(x, "ABCDEFGH");
            x.draw(0, 0);
        }
        Due.is("the last one", x.next(), -4);
        Due.is("still", x.count(0), 9);
    }

    /** Clubs with these pays, one player each. */
    private static CapLeague clubs(int... pays) {
        CapLeague x = Due.withPlayers(pays.length);
        Due.laws(x, 0, "cap 50000;");
        for (int c = 0; c < pays.length; c++) {
            x.sign(c, c, 3, pays[c], 0, 100, false);
        }
        return x;
    }

    private static void purses(CapLeague x, int league, int... due) {
        Due.is("league", x.count(3), league);
        for (int c = 0; c < 8; c++) {
            Due.is("purse " + c, x.purse(c), due[c]);
        }
    }

    private static void finesAreShared() {
        CapLeague x = clubs(100, 101, 103, 111, 0, 0);
        Due.laws(x, 0, "cap 100;tax 150;");
        Due.endYear(x);
        // 1, 4 and 16: 21 for five
        purses(x, 1, -4, 1, 4, 16, -4, -4, -4, -4);
    }

    private static void finesOfAll() {
        CapLeague x = clubs(11, 12, 13, 14, 15, 16, 17, 18);
        Due.laws(x, 0, "cap 10;tax 100;");
        Due.endYear(x);
        purses(x, 36, 1, 2, 3, 4, 5, 6, 7, 8);
    }

    private static void finesOfAllButOne() {
        CapLeague x = clubs(11, 12, 13, 10, 15, 16, 17, 18);
        Due.laws(x, 0, "cap 10;tax 50;");
        Due.endYear(x);
        purses(x, 0, 0, 1, 1, -14, 2, 3, 3, 4);
    }

    private static void withoutTax() {
        CapLeague x = clubs(100, 0);
        Due.laws(x, 0, "cap 10;");
        Due.endYear(x);
        purses(x, 0, 0, 0, 0, 0, 0, 0, 0, 0);
    }

    private static void finesAddUp() {
        CapLeague x = clubs(100);
        Due.laws(x, 0, "cap 90;tax 100;");
        Due.laws(x, 1, "cap 80;tax 100;");
        Due.endYear(x);
        purses(x, 3, 10, -1, -1, -1, -1, -1, -1, -1);
        Due.endYear(x);
        purses(x, 9, 30, -3, -3, -3, -3, -3, -3, -3);
    }

    private static void theHurtAndTheDead() {
        CapLeague x = clubs(100, 100, 100);
        Due.laws(x, 0, "cap 90;tax 100;hurt 50;");
        x.hurt(0, true);
        x.waive(1);
        x.give(2, 3);
        Due.laws(x, 1, "cap 50000;");
        Due.is("above cap without match", x.deal(), 0);
        Due.endYear(x);
        purses(x, 2, -3, 10, 10, -3, -3, -3, -3, -3);
    }

    private static void pursesOutOfRange() {
        CapLeague x = new CapLeague();
        Due.is("-1", x.purse(-1), -2000000000);
        Due.is("8", x.purse(8), -2000000000);
        Due.is("7", x.purse(7), 0);
    }

    private static void countsOutOfRange() {
        CapLeague x = new CapLeague();
        Due.is("-1", x.count(-1), -1);
        Due.is("7", x.count(7), -1);
        Due.is("most", x.count(Integer.MAX_VALUE), -1);
    }
}
