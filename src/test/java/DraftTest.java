/** Promises 25 to 29: the table, chances, the draw, turns and whose they are. */
public final class DraftTest {
    private static final String[] LOTS = {
        "", "lots 7;", "lots 3 2;", "lots 3 2 1;", "lots 20 1 20 1;", "lots 5 4 3 2 1;", "lots 1 2 3 5 7 11;"
    };

    public static void main(String[] args) {
        tables();
        chancesOutOfRange();
        chancesOfTheGreatestWeights();
        for (String lots : LOTS) {
            chancesAgainstAllDraws(lots);
        }
        drawsOutOfRange();
        orders();
        turnsOutOfRange();
        turnsThatWereTraded();
        protection();
        protectionOfALaterYear();
        ownersOutOfRange();
        Due.done();
    }

    private static void tables() {
        CapLeague x = new CapLeague();
        String[] none = {"", "ABCDEFG", "ABCDEFGHA", "ABCDEFGG", "ABCDEFGI", "abcdefgh", "@BCDEFGH", "ABCDEFGH ",
            " ABCDEFG", "AAAAAAAA", "ABCD EFGH"};
        for (String text : none) {
            Due.is("'" + text + "'", Due.table(x, text), -1);
            Due.is("not told", x.count(5), 0);
            Due.is("the tape is empty", x.count(4), 0);
        }
        Due.is("no draw", x.draw(0, 0), -4);
        Due.is("told", Due.table(x, "HGFEDCBA"), 1);
        Due.is("is told", x.count(5), 1);
        Due.is("the tape is empty then", x.count(4), 0);
        Due.is("7 is the first", x.chance(7, 0, 0), 1);
        Due.is("told anew", Due.table(x, "ABCDEFGH"), 1);
        Due.is("7 is the last", x.chance(7, 0, 0), 0);
        Due.is("none leaves it", Due.table(x, "no table"), -1);
        Due.is("0 is the first", x.chance(0, 0, 0), 1);
        Due.is("draw", x.draw(0, 0), 1);
        Due.is("the draft was", Due.table(x, "HGFEDCBA"), -4);
        Due.is("the tape is empty when the draft was", x.count(4), 0);
        Due.is("is none, and the draft was", Due.table(x, "HGFEDCB"), -1);
        Due.is("told still", x.count(5), 1);
        Due.is("chances still", x.chance(0, 0, 0), 1);
        x.next();
        Due.is("a table of the year gone is none of this", x.count(5), 0);
        Due.is("chance", x.chance(0, 0, 0), -4);
        Due.is("draw without", x.draw(0, 0), -4);
        Due.is("told again", Due.table(x, "HGFEDCBA"), 1);
    }

    private static void chancesOutOfRange() {
        CapLeague x = new CapLeague();
        Due.is("no table", x.chance(0, 0, 0), -4);
        Due.is("no club ahead of no table", x.chance(8, 0, 0), -2);
        Due.table(x, "ABCDEFGH");
        Due.is("no club", x.chance(-1, 0, 0), -2);
        Due.is("no club above", x.chance(8, 0, 1), -2);
        Due.is("no k", x.chance(0, -1, 0), -2);
        Due.is("no k above", x.chance(0, 2, 0), -2);
        Due.is("no what", x.chance(0, 0, -1), -2);
        Due.is("no what above", x.chance(0, 0, 2), -2);
    }

    private static void chancesOfTheGreatestWeights() {
        CapLeague x = new CapLeague();
        Due.laws(x, 0, "lots 20 19 18 17 16 15;");
        Due.table(x, "ABCDEFGH");
        long above = 0;
        long below = 105L * 86 * 87 * 88 * 89 * 90;
        int[] weights = {20, 19, 18, 17, 16, 15};
        for (int j = 1; j < 6; j++) {
            above += below / 105 / (105 - weights[j]) * weights[j] * 20;
        }
        Due.is("second of 20", x.chance(0, 1, 0) * (below / x.chance(0, 1, 1)), above);
        Due.is("all of it", below % x.chance(0, 1, 1), 0);
    }

    /** Every draw is made once, weighed by its likelihood, and compared with the chances. */
    private static void chancesAgainstAllDraws(String lots) {
        CapLeague x = new CapLeague();
        Due.laws(x, 0, lots);
        Due.table(x, "CAFHBDEG");
        boolean withLots = x.law(0, 8) > 1;
        int sum = 0;
        for (int i = 0; withLots && i < x.law(0, 8); i++) {
            sum += x.law(0, 10 + i);
        }
        int firsts = Math.max(1, sum);
        double[][] seen = new double[2][8];
        for (int first = 0; first < firsts; first++) {
            int seconds = 0;
            while (drawn(lots, first, seconds) != null) {
                seconds++;
            }
            for (int second = 0; second < seconds; second++) {
                CapLeague y = drawn(lots, first, second);
                seen[0][y.turn(0, 0, 0)] += 1.0 / firsts;
                seen[1][y.turn(0, 1, 0)] += 1.0 / firsts / seconds;
            }
            seen[0][drawn(lots, first, 0).turn(0, 0, 0)] += (1.0 - seconds) / firsts;
        }
        for (int k = 0; k < 2; k++) {
            for (int c = 0; c < 8; c++) {
                long above = x.chance(c, k, 0);
                long below = x.chance(c, k, 1);
                Due.holds(lots + " chance " + c + " " + k + ": " + above + "/" + below + " of " + seen[k][c],
                        below > 0 && Math.abs((double) above / below - seen[k][c]) < 1e-9);
                Due.is(lots + " is cut", divisor(above, below), 1);
            }
        }
        Due.is("first one too great", drawn(lots, firsts, 0) == null ? 1 : 0, 1);
    }

    private static long divisor(long a, long b) {
        return b == 0 ? a : divisor(b, a % b);
    }

    private static CapLeague drawn(String lots, int first, int second) {
        CapLeague x = new CapLeague();
        Due.laws(x, 0, lots);
        Due.table(x, "CAFHBDEG");
        return x.draw(first, second) == 1 ? x : null;
    }

    private static void drawsOutOfRange() {
        CapLeague x = new CapLeague();
        Due.is("range ahead of no table", x.draw(1, 0), -2);
        Due.is("no table", x.draw(0, 0), -4);
        Due.table(x, "ABCDEFGH");
        Due.is("without lots", x.draw(0, 1), -2);
        Due.is("below", x.draw(0, -1), -2);
        Due.laws(x, 0, "lots 3;");
        Due.is("one number: no lots", x.draw(1, 0), -2);
        Due.laws(x, 0, "lots 3 4;");
        Due.is("first", x.draw(7, 0), -2);
        Due.is("first below", x.draw(-1, 0), -2);
        Due.is("second", x.draw(2, 4), -2);
        Due.is("second of the other", x.draw(3, 3), -2);
        Due.is("second below", x.draw(3, -1), -2);
        Due.is("most", x.draw(Integer.MAX_VALUE, Integer.MAX_VALUE), -2);
        Due.is("drawn", x.draw(6, 2), 1);
        Due.is("drawn already", x.draw(6, 2), -4);
        Due.is("range ahead of drawn", x.draw(7, 2), -2);
        Due.is("is drawn", x.count(6), 1);
        x.next();
        Due.is("not this one", x.count(6), 0);
    }

    private static void orders() {
        order("", 0, 0, "CAFHBDEG");
        order("lots 9;", 0, 0, "CAFHBDEG");
        order("lots 3 2;", 0, 1, "CAFHBDEG");
        order("lots 3 2;", 4, 2, "ACFHBDEG");
        order("lots 3 2 1;", 2, 0, "CAFHBDEG");
        order("lots 3 2 1;", 2, 2, "CFAHBDEG");
        order("lots 3 2 1;", 3, 2, "ACFHBDEG");
        order("lots 3 2 1;", 5, 3, "FACHBDEG");
        order("lots 1 1 1 1 1 1;", 5, 4, "DBCAFHEG");
    }

    private static void order(String lots, int first, int second, String due) {
        CapLeague x = new CapLeague();
        Due.laws(x, 0, lots);
        Due.table(x, "CAFHBDEG");
        Due.is(lots + " draw", x.draw(first, second), 1);
        for (int i = 0; i < 8; i++) {
            Due.is(lots + " turn " + i, x.turn(0, i, 0), due.charAt(i) - 'A');
            Due.is(lots + " who has it " + i, x.turn(0, i, 1), due.charAt(i) - 'A');
        }
    }

    private static void turnsOutOfRange() {
        CapLeague x = new CapLeague();
        Due.is("not drawn", x.turn(0, 0, 0), -1);
        Due.table(x, "HGFEDCBA");
        Due.is("not drawn yet", x.turn(0, 0, 0), -1);
        x.draw(0, 0);
        Due.is("drawn", x.turn(0, 7, 0), 0);
        Due.is("i", x.turn(0, 8, 0), -1);
        Due.is("i below", x.turn(0, -1, 0), -1);
        Due.is("what", x.turn(0, 0, 2), -1);
        Due.is("what below", x.turn(0, 0, -1), -1);
        Due.is("year", x.turn(10, 0, 0), -1);
        Due.is("year below", x.turn(-1, 0, 0), -1);
        Due.is("another year", x.turn(1, 0, 0), -1);
        x.next();
        Due.is("a year gone", x.turn(0, 0, 0), 7);
    }

    private static void turnsThatWereTraded() {
        CapLeague x = new CapLeague();
        x.giveTurn(0, 0, 5, 0);
        x.giveTurn(3, 0, 6, 0);
        x.deal();
        x.giveTurn(3, 0, 7, 0);
        x.deal();
        Due.table(x, "ABCDEFGH");
        x.draw(0, 0);
        Due.is("0 by the order", x.turn(0, 0, 0), 0);
        Due.is("5 has it", x.turn(0, 0, 1), 5);
        Due.is("3 by the order", x.turn(0, 3, 0), 3);
        Due.is("7 has it", x.turn(0, 3, 1), 7);
        Due.is("belongs to 5", x.owner(0, 0, 0), 5);
        Due.is("its own of the next year", x.owner(0, 1, 0), 0);
    }

    private static void protection() {
        for (int k = 0; k <= 8; k++) {
            CapLeague x = new CapLeague();
            x.giveTurn(4, 0, 6, 0);
            x.deal();
            x.giveTurn(4, 0, 1, k);
            x.deal();
            Due.is("by " + k, x.owner(4, 0, 1), k);
            Due.table(x, "ABCDEFGH");
            x.draw(0, 0);
            boolean isBack = k >= 5;
            Due.is("by the order", x.turn(0, 4, 0), 4);
            Due.is("who has it, by " + k, x.turn(0, 4, 1), isBack ? 6 : 1);
            Due.is("belongs, by " + k, x.owner(4, 0, 0), isBack ? 6 : 1);
            Due.is("protected then, by " + k, x.owner(4, 0, 1), isBack ? 0 : k);
        }
    }

    private static void protectionOfALaterYear() {
        CapLeague x = new CapLeague();
        x.giveTurn(0, 1, 3, 8);
        x.deal();
        Due.endYear(x);
        Due.is("still 3's", x.owner(0, 1, 0), 3);
        Due.table(x, "ABCDEFGH");
        x.draw(0, 0);
        Due.is("back", x.owner(0, 1, 0), 0);
        Due.is("0 has it", x.turn(1, 0, 1), 0);
    }

    private static void ownersOutOfRange() {
        CapLeague x = new CapLeague();
        Due.is("of", x.owner(8, 0, 0), -2);
        Due.is("of below", x.owner(-1, 0, 0), -2);
        Due.is("year", x.owner(0, 10, 0), -2);
        Due.is("year below", x.owner(0, -1, 0), -2);
        Due.is("what", x.owner(0, 0, 2), -2);
        Due.is("what below", x.owner(0, 0, -1), -2);
        for (int c = 0; c < 8; c++) {
            Due.is("its own", x.owner(c, 9, 0), c);
            Due.is("not protected", x.owner(c, 9, 1), 0);
        }
    }
}
