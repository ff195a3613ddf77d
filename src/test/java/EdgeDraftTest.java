import java.math.BigInteger;

/** The edges that Terms IV and promises 25 to 32 name: one test for each sentence with one. */
public final class EdgeDraftTest {
    private static final int LEAST = Integer.MIN_VALUE;
    private static final int GREATEST = Integer.MAX_VALUE;
    private static final int[] NO_CLUBS = {LEAST, -1, 8, 9, 256, GREATEST};
    private static final int[] NO_YEARS = {LEAST, -1, 10, 11, 80, GREATEST};
    private static final int NO_SUM = -2000000000;

    public static void main(String[] args) {
        tableOfEightBytes();
        tableOfEachClubOnce();
        tableReadAndEmptyThen();
        tableToldAnew();
        tableWhenTheDraftWas();
        chanceNoSuch();
        chanceWithoutTable();
        chanceWithoutLots();
        chanceOfWhoHasNoLot();
        chancesAreCut();
        chancesAreOne();
        drawWithoutLots();
        drawFirstBelowTheSum();
        drawSecondBelowThoseLeft();
        drawGoesThroughTheWeights();
        drawByTheLawsOfTheYear();
        drawWithoutTable();
        drawOnce();
        othersInTheOrderOfTheTable();
        turnOfNothingElse();
        turnsOfYearsGone();
        turnIsToWhomItBelongsThen();
        ownerNoSuch();
        nextWithoutDraft();
        nextBehindTheLast();
        atCapIsNoFine();
        finesAreCut();
        sharesAreWholeParts();
        allAboveCap();
        noneAboveCap();
        oneLeftToShare();
        greatestFines();
        finesByTheLawsOfTheYear();
        contractsEndThen();
        noneIsHurtThen();
        noSpareIsUsedThen();
        tableIsOfItsYearAlone();
        purseNoSuch();
        countOfNothingElse();
        countsAtTheirMost();
        Due.done();
    }

    private static void tableOfEightBytes() {
        Due.says("Promise 25: eight bytes: 1; NONE: it is none");
        for (int n : new int[] {0, 1, 7, 8, 9, 15, 16, 17, 20, 499, 500}) {
            CapLeague x = new CapLeague();
            String text = "ABCDEFGH".repeat(63).substring(0, n);
            Due.is(n + " bytes", Due.table(x, text), n == 8 ? 1 : -1);
            Due.is("told", x.count(5), n == 8 ? 1 : 0);
        }
        CapLeague x = new CapLeague();
        Due.is("no tape", x.table(), -1);
        Due.is("a blank behind", Due.table(x, "ABCDEFGH "), -1);
        Due.is("a blank ahead", Due.table(x, " ABCDEFGH"), -1);
        Due.is("not told", x.count(5), 0);
    }

    private static void tableOfEachClubOnce() {
        Due.says("Promise 25: each CLUB's number and 65; NONE: it is none");
        CapLeague[] tried = new CapLeague[8];
        for (int place = 0; place < 8; place++) {
            tried[place] = new CapLeague();
            for (int sign : new int[] {0, 1, 32, 64, 73, 97, 104, 128, 193, 255}) {
                Due.is(sign + " at " + place, Due.table(tried[place], withSign(place, sign)), -1);
            }
            for (int c = 0; c < 8; c++) {
                Due.is(c + " at " + place, Due.table(tried[place], withSign(place, 65 + c)), c == place ? 1 : -1);
            }
        }
        Due.is("any order", Due.table(tried[0], "DAHBGCFE"), 1);
        Due.is("worst first", tried[0].chance(3, 0, 0), 1);
    }

    private static String withSign(int place, int sign) {
        StringBuilder text = new StringBuilder("ABCDEFGH");
        text.setCharAt(place, (char) sign);
        return text.toString();
    }

    private static void tableReadAndEmptyThen() {
        Due.says("Promise 25: THE TAPE (read, and empty then)");
        CapLeague x = new CapLeague();
        Due.is("none", Due.table(x, "cap 5;"), -1);
        Due.is("bytes", x.count(4), 0);
        Due.is("one", Due.table(x, "ABCDEFGH"), 1);
        Due.is("bytes then", x.count(4), 0);
        Due.is("once", x.table(), -1);
        x.draw(0, 0);
        Due.is("the draft was", Due.table(x, "ABCDEFGH"), -4);
        Due.is("bytes with STATE", x.count(4), 0);
    }

    private static void tableToldAnew() {
        Due.says("Promise 25: is the table of the CLOCK's YEAR: 1: the one told last");
        CapLeague x = new CapLeague();
        Due.table(x, "ABCDEFGH");
        Due.is("anew", Due.table(x, "HGFEDCBA"), 1);
        Due.is("none", Due.table(x, "ABCDEFG"), -1);
        Due.is("told still", x.count(5), 1);
        x.draw(0, 0);
        Due.is("by the second", x.turn(0, 0, 0), 7);
        Due.is("its last", x.turn(0, 7, 0), 0);
    }

    private static void tableWhenTheDraftWas() {
        Due.says("Promise 25: STATE: the DRAFT was");
        CapLeague x = new CapLeague();
        Due.table(x, "ABCDEFGH");
        x.draw(0, 0);
        Due.is("drawn", Due.table(x, "HGFEDCBA"), -4);
        Due.is("the order stays", x.turn(0, 0, 0), 0);
        Due.is("the chances stay", x.chance(0, 0, 0), 1);
        x.next();
        Due.is("in the next year", Due.table(x, "HGFEDCBA"), 1);
    }

    private static void chanceNoSuch() {
        Due.says("Promise 26: CHANCES of a CLUB to have turn k (0, 1), what 0, 1; RANGE");
        CapLeague x = new CapLeague();
        for (int told = 0; told < 2; told++) {
            Due.each("club", c -> x.chance(c, 0, 0), -2, NO_CLUBS);
            Due.each("k", k -> x.chance(0, k, 0), -2, LEAST, -1, 2, 3, GREATEST);
            Due.each("what", what -> x.chance(0, 0, what), -2, LEAST, -1, 2, 3, GREATEST);
            Due.table(x, "ABCDEFGH");
        }
    }

    private static void chanceWithoutTable() {
        Due.says("Promise 26: STATE: no table was told this YEAR");
        CapLeague x = new CapLeague();
        Due.is("none yet", x.chance(0, 0, 0), -4);
        Due.table(x, "ABCDEFG");
        Due.is("none told", x.chance(0, 1, 1), -4);
        Due.table(x, "ABCDEFGH");
        Due.is("told", x.chance(0, 0, 0), 1);
        x.draw(0, 0);
        Due.is("told still", x.chance(0, 0, 0), 1);
        x.next();
        Due.is("none this year", x.chance(0, 0, 0), -4);
    }

    private static void chanceWithoutLots() {
        Due.says("Terms IV: LOTS (one N: none); Terms I: lots 1 (one club: no lot)");
        for (String laws : new String[] {"", "lots 1;", "lots 20;"}) {
            CapLeague x = new CapLeague();
            Due.laws(x, 0, laws);
            Due.table(x, "FBCDEAGH");
            for (int c = 0; c < 8; c++) {
                Due.is("first of " + c, x.chance(c, 0, 0), c == 5 ? 1 : 0);
                Due.is("second of " + c, x.chance(c, 1, 0), c == 1 ? 1 : 0);
                Due.is("below", x.chance(c, 0, 1), 1);
                Due.is("below the second", x.chance(c, 1, 1), 1);
            }
        }
    }

    private static void chanceOfWhoHasNoLot() {
        Due.says("Terms IV: the first ones of the table (as many as lots has N) have weights; what 1: below (above 0)");
        StringBuilder laws = new StringBuilder("lots 1");
        for (int lots = 2; lots <= 6; lots++) {
            laws.append(" 1");
            CapLeague x = new CapLeague();
            Due.laws(x, 0, laws + ";");
            Due.table(x, "HGFEDCBA");
            for (int c = 0; c < 8; c++) {
                boolean isIn = 7 - c < lots;
                for (int k = 0; k < 2; k++) {
                    Due.is("above, " + lots + " lots, of " + c, x.chance(c, k, 0), isIn ? 1 : 0);
                    Due.is("below, " + lots + " lots, of " + c, x.chance(c, k, 1), isIn ? lots : 1);
                }
            }
        }
    }

    private static void chancesAreCut() {
        Due.says("Terms IV: CHANCES: fractions, cut");
        CapLeague x = new CapLeague();
        Due.laws(x, 0, "lots 4 2;");
        Due.table(x, "ABCDEFGH");
        chanceIs(x, 0, 0, 2, 3);
        chanceIs(x, 1, 0, 1, 3);
        chanceIs(x, 0, 1, 1, 3);
        chanceIs(x, 1, 1, 2, 3);
        chanceIs(x, 2, 1, 0, 1);
        Due.laws(x, 0, "lots 20 20 20 20 20 20;");
        chanceIs(x, 5, 0, 1, 6);
        chanceIs(x, 5, 1, 1, 6);
        chanceIs(x, 6, 0, 0, 1);
        Due.laws(x, 0, "lots 20 19 18 17 16 15;");
        chanceIs(x, 0, 0, 4, 21);
        chanceIs(x, 5, 0, 1, 7);
        // 20/105 * (19/86 + 18/87 + 17/88 + 16/89 + 15/90), cut
        chanceIs(x, 0, 1, 28345829, 153822438);
        Due.laws(x, 0, "lots 1 20;");
        chanceIs(x, 0, 0, 1, 21);
        chanceIs(x, 0, 1, 20, 21);
    }

    private static void chanceIs(CapLeague x, int c, int k, long above, long below) {
        Due.is("above, of " + c + " for " + k, x.chance(c, k, 0), above);
        Due.is("below, of " + c + " for " + k, x.chance(c, k, 1), below);
    }

    private static void chancesAreOne() {
        Due.says("Terms IV: by weights, one after the other (the second among those left): together 1");
        String[] all = {"", "lots 3;", "lots 1 20;", "lots 7 5 3;", "lots 20 1 1 20;", "lots 19 17 13 11 7;",
            "lots 20 19 17 13 11 7;", "lots 1 1 1 1 1 20;"};
        for (String laws : all) {
            CapLeague x = new CapLeague();
            Due.laws(x, 0, laws);
            Due.table(x, "CAFHBDEG");
            for (int k = 0; k < 2; k++) {
                BigInteger above = BigInteger.ZERO;
                BigInteger below = BigInteger.ONE;
                for (int c = 0; c < 8; c++) {
                    BigInteger a = BigInteger.valueOf(x.chance(c, k, 0));
                    BigInteger b = BigInteger.valueOf(x.chance(c, k, 1));
                    above = above.multiply(b).add(a.multiply(below));
                    below = below.multiply(b);
                }
                Due.holds(laws + " turn " + k, above.equals(below));
            }
        }
    }

    private static void drawWithoutLots() {
        Due.says("Promise 27: DRAWN by two numbers (0 both without lots): 1; RANGE: no such numbers");
        for (String laws : new String[] {"", "lots 1;", "lots 20;"}) {
            CapLeague x = new CapLeague();
            Due.laws(x, 0, laws);
            Due.table(x, "CAFHBDEG");
            Due.each("first", n -> x.draw(n, 0), -2, LEAST, -1, 1, 19, 20, GREATEST);
            Due.each("second", n -> x.draw(0, n), -2, LEAST, -1, 1, 19, 20, GREATEST);
            Due.is("not drawn", x.count(6), 0);
            Due.is("0 both", x.draw(0, 0), 1);
            orderIs(x, 0, "CAFHBDEG");
        }
    }

    private static void orderIs(CapLeague x, int year, String due) {
        for (int i = 0; i < 8; i++) {
            Due.is("turn " + i + " of " + due, x.turn(year, i, 0), due.charAt(i) - 'A');
        }
    }

    private static void drawFirstBelowTheSum() {
        Due.says("Terms IV: the first below the sum of weights");
        CapLeague x = new CapLeague();
        Due.laws(x, 0, "lots 20 20 20 20 20 20;");
        Due.table(x, "ABCDEFGH");
        Due.each("first", n -> x.draw(n, 0), -2, LEAST, -1, 120, 121, GREATEST);
        Due.is("the greatest one below", x.draw(119, 0), 1);
        orderIs(x, 0, "FABCDEGH");
    }

    private static void drawSecondBelowThoseLeft() {
        Due.says("Terms IV: the second below the sum of those left");
        int[] weights = {2, 3, 5};
        int first = 0;
        for (int i = 0; i < 3; i++) {
            int left = 10 - weights[i];
            int number = first;
            CapLeague x = new CapLeague();
            Due.laws(x, 0, "lots 2 3 5;");
            Due.table(x, "ABCDEFGH");
            Due.each("second", n -> x.draw(number, n), -2, LEAST, -1, left, left + 1, 10, GREATEST);
            Due.is("the greatest one below", x.draw(number, left - 1), 1);
            Due.is("first", x.turn(0, 0, 0), i);
            Due.is("second", x.turn(0, 1, 0), i == 2 ? 1 : 2);
            first += weights[i];
        }
    }

    private static void drawGoesThroughTheWeights() {
        Due.says("Terms IV: who has it, going through the weights one by one; the second likewise");
        String[] rows = {"0 0 BC", "0 2 BC", "0 3 CB", "0 7 CB", "1 0 BC", "2 0 AC", "2 1 AC", "2 2 CA", "2 6 CA",
            "4 0 AC", "5 0 AB", "5 1 AB", "5 2 BA", "9 4 BA"};
        for (String row : rows) {
            String[] parts = row.split(" ");
            CapLeague x = new CapLeague();
            Due.laws(x, 0, "lots 2 3 5;");
            Due.table(x, "ABCDEFGH");
            Due.is("draw " + row, x.draw(Integer.parseInt(parts[0]), Integer.parseInt(parts[1])), 1);
            String first = "ABC".replaceAll("[" + parts[2] + "]", "");
            orderIs(x, 0, first + parts[2] + "DEFGH");
        }
    }

    private static void drawByTheLawsOfTheYear() {
        Due.says("Terms IV: The DRAFT of the CLOCK's YEAR: as many as lots has N");
        CapLeague x = new CapLeague();
        Due.laws(x, 1, "lots 1 1;");
        Due.table(x, "ABCDEFGH");
        Due.is("no lots in year 0", x.draw(1, 0), -2);
        x.draw(0, 0);
        x.next();
        Due.table(x, "ABCDEFGH");
        Due.is("lots in year 1", x.draw(1, 0), 1);
        orderIs(x, 0, "ABCDEFGH");
        orderIs(x, 1, "BACDEFGH");
    }

    private static void drawWithoutTable() {
        Due.says("Promise 27: STATE: no table");
        CapLeague x = new CapLeague();
        Due.is("none", x.draw(0, 0), -4);
        Due.is("no such numbers is ahead", x.draw(1, 0), -2);
        Due.is("not drawn", x.count(6), 0);
        Due.endYear(x);
        Due.is("none this year", x.draw(0, 0), -4);
    }

    private static void drawOnce() {
        Due.says("Promise 27: STATE: or it was");
        CapLeague x = new CapLeague();
        Due.laws(x, 0, "lots 1 1;");
        Due.table(x, "ABCDEFGH");
        x.draw(0, 0);
        Due.is("again", x.draw(1, 0), -4);
        Due.is("no such numbers is ahead", x.draw(2, 0), -2);
        orderIs(x, 0, "ABCDEFGH");
    }

    private static void othersInTheOrderOfTheTable() {
        Due.says("Terms IV: the first two turns are drawn; then all others in the order of the table");
        CapLeague x = new CapLeague();
        Due.laws(x, 0, "lots 1 1 1 1 1 1;");
        Due.table(x, "HDBFACGE");
        x.draw(5, 3);
        orderIs(x, 0, "CFHDBAGE");
    }

    private static void turnOfNothingElse() {
        Due.says("Promise 28: of a YEAR that was DRAWN; NONE when there is none such");
        CapLeague x = new CapLeague();
        Due.is("ahead of it", x.turn(0, 0, 0), -1);
        Due.table(x, "ABCDEFGH");
        Due.is("a table alone", x.turn(0, 0, 1), -1);
        x.draw(0, 0);
        Due.each("year", year -> x.turn(year, 0, 0), -1, LEAST, -1, 1, 9, 10, 11, GREATEST);
        Due.each("i", i -> x.turn(0, i, 0), -1, LEAST, -1, 8, 9, GREATEST);
        Due.each("what", what -> x.turn(0, 0, what), -1, LEAST, -1, 2, 3, GREATEST);
        Due.is("the last", x.turn(0, 7, 1), 7);
    }

    private static void turnsOfYearsGone() {
        Due.says("Promise 28: Turn i of the DRAFT of a YEAR that was DRAWN: each of the ten");
        CapLeague x = new CapLeague();
        for (int year = 0; year < 10; year++) {
            StringBuilder text = new StringBuilder("ABCDEFGH");
            text.append(text.charAt(year % 8)).deleteCharAt(year % 8);
            Due.table(x, text.toString());
            x.draw(0, 0);
            x.next();
        }
        for (int year = 0; year < 10; year++) {
            Due.is("the last of " + year, x.turn(year, 7, 0), year % 8);
            Due.is("the first of " + year, x.turn(year, 0, 0), year % 8 == 0 ? 1 : 0);
        }
    }

    private static void turnIsToWhomItBelongsThen() {
        Due.says("Terms IV: Who has the i-th turn is to whom the TURN of the i-th CLUB in the order belongs then");
        CapLeague x = new CapLeague();
        for (int of = 0; of < 4; of++) {
            x.giveTurn(of, 0, 7 - of, 0);
            x.deal();
        }
        Due.table(x, "ABCDEFGH");
        x.draw(0, 0);
        int[] has = {7, 6, 5, 4, 4, 5, 6, 7};
        for (int i = 0; i < 8; i++) {
            Due.is("whose it was by the order", x.turn(0, i, 0), i);
            Due.is("who has it", x.turn(0, i, 1), has[i]);
        }
    }

    private static void ownerNoSuch() {
        Due.says("Promise 29: the TURN of a CLUB in a YEAR (0 .. 9); RANGE");
        CapLeague x = new CapLeague();
        Due.each("of", of -> x.owner(of, 0, 0), -2, NO_CLUBS);
        Due.each("year", year -> x.owner(0, year, 0), -2, NO_YEARS);
        Due.each("what", what -> x.owner(0, 0, what), -2, LEAST, -1, 2, 3, GREATEST);
        Due.is("the last one", x.owner(7, 9, 0), 7);
        Due.is("not protected (0)", x.owner(7, 9, 1), 0);
        Due.endYear(x);
        Due.is("of a year gone", x.owner(7, 0, 0), 7);
    }

    private static void nextWithoutDraft() {
        Due.says("Promise 30: STATE: its DRAFT wasn't DRAWN");
        CapLeague x = new CapLeague();
        Due.is("no table", x.next(), -4);
        Due.table(x, "ABCDEFGH");
        Due.is("a table", x.next(), -4);
        x.draw(1, 0);
        Due.is("a draw that was refused", x.next(), -4);
        Due.is("year", x.count(0), 0);
        x.draw(0, 0);
        Due.is("drawn", x.next(), 1);
        Due.is("not in the next one", x.next(), -4);
    }

    private static void nextBehindTheLast() {
        Due.says("Promise 30: The CLOCK's YEAR ends: the next one; STATE: it is the last one");
        CapLeague x = Due.withPlayers(1);
        Due.laws(x, 0, "cap 10;spare 20;tax 100;");
        for (int year = 1; year < 10; year++) {
            Due.is("next", Due.endYear(x), year);
        }
        x.sign(0, 0, 1, 20, 0, 0, false);
        x.hurt(0, true);
        Due.is("the last one", Due.endYear(x), -4);
        Due.is("year", x.count(0), 9);
        Due.is("drawn all the same", x.turn(9, 0, 0), 0);
        Due.is("the contract goes on", x.about(0, 0), 0);
        Due.is("hurt still", x.about(0, 4), 1);
        Due.is("spare used still", x.club(0, 9, 3), 1);
        Due.is("no fine", x.purse(0), 0);
    }

    /** The first clubs count so much, one player each, under the laws of a text; then the year ends. */
    private static CapLeague ended(String laws, int... pays) {
        CapLeague x = Due.withPlayers(pays.length);
        Due.laws(x, 0, "cap 50000;");
        for (int c = 0; c < pays.length; c++) {
            x.sign(c, c, 1, pays[c], 0, 0, false);
        }
        Due.is(laws, Due.laws(x, 0, laws) > 0 ? 1 : 0, 1);
        Due.is("next", Due.endYear(x), 1);
        return x;
    }

    private static void pursesAre(CapLeague x, int league, int... due) {
        Due.is("stays with the league", x.count(3), league);
        for (int c = 0; c < 8; c++) {
            Due.is("purse " + c, x.purse(c), due[c]);
        }
    }

    private static void atCapIsNoFine() {
        Due.says("Terms IV: each CLUB that COUNTS above cap pays");
        pursesAre(ended("cap 10;tax 300;", 10, 11), 3, 0, 3, 0, 0, 0, 0, 0, 0);
        pursesAre(ended("cap 10;tax 300;", 10, 18), 3, -3, 24, -3, -3, -3, -3, -3, -3);
    }

    private static void finesAreCut() {
        Due.says("Terms IV: tax hundredths (cut) of what is above");
        pursesAre(ended("cap 10;tax 99;", 11), 0, 0, 0, 0, 0, 0, 0, 0, 0);
        pursesAre(ended("cap 10;tax 100;", 11), 1, 1, 0, 0, 0, 0, 0, 0, 0);
        pursesAre(ended("cap 10;tax 199;", 11, 12), 4, 1, 3, 0, 0, 0, 0, 0, 0);
        pursesAre(ended("cap 10;tax 1;", 109, 110), 1, 0, 1, 0, 0, 0, 0, 0, 0);
        pursesAre(ended("cap 10;tax 0;", 500), 0, 0, 0, 0, 0, 0, 0, 0, 0);
    }

    private static void sharesAreWholeParts() {
        Due.says("Terms IV: shared evenly by those that don't (whole parts; what is left over stays with the league)");
        pursesAre(ended("cap 10;tax 100;", 16), 6, 6, 0, 0, 0, 0, 0, 0, 0);
        pursesAre(ended("cap 10;tax 100;", 17), 0, 7, -1, -1, -1, -1, -1, -1, -1);
        pursesAre(ended("cap 10;tax 100;", 18), 1, 8, -1, -1, -1, -1, -1, -1, -1);
        pursesAre(ended("cap 10;tax 100;", 23), 6, 13, -1, -1, -1, -1, -1, -1, -1);
        pursesAre(ended("cap 10;tax 100;", 24), 0, 14, -2, -2, -2, -2, -2, -2, -2);
    }

    private static void allAboveCap() {
        Due.says("Terms IV: if all COUNT above cap, all of it");
        pursesAre(ended("cap 10;tax 100;", 11, 11, 11, 11, 11, 11, 11, 11), 8, 1, 1, 1, 1, 1, 1, 1, 1);
        pursesAre(ended("cap 10;tax 0;", 11, 11, 11, 11, 11, 11, 11, 11), 0, 0, 0, 0, 0, 0, 0, 0, 0);
    }

    private static void noneAboveCap() {
        Due.says("Terms IV: the sum of all fines: of none, 0");
        pursesAre(ended("cap 10;tax 300;", 10, 10, 10, 10, 10, 10, 10, 10), 0, 0, 0, 0, 0, 0, 0, 0, 0);
        pursesAre(ended("cap 1;tax 300;"), 0, 0, 0, 0, 0, 0, 0, 0, 0);
    }

    private static void oneLeftToShare() {
        Due.says("Terms IV: shared evenly by those that don't: one has all");
        pursesAre(ended("cap 10;tax 100;", 11, 11, 11, 11, 11, 11, 11, 10), 0, 1, 1, 1, 1, 1, 1, 1, -7);
        pursesAre(ended("cap 10;tax 99;", 11, 11, 11, 11, 11, 11, 11, 10), 0, 0, 0, 0, 0, 0, 0, 0, 0);
    }

    private static void greatestFines() {
        Due.says("Terms IV: tax hundredths of what is above: of the greatest");
        CapLeague x = Due.withPlayers(2);
        Due.laws(x, 0, "cap 50000;");
        x.sign(0, 0, 2, 20000, 500, 100, false);
        x.sign(1, 0, 2, 20000, 500, 100, false);
        Due.laws(x, 0, "cap 1;tax 300;");
        Due.endYear(x);
        Due.is("300 of 39999", x.purse(0), 119997);
        Due.is("a seventh", x.purse(7), -17142);
        Due.is("left over", x.count(3), 119997 - 7 * 17142);
        Due.endYear(x);
        Due.is("and of 40999", x.purse(0), 119997 + 122997);
        Due.is("in all", x.purse(7), -17142 - 17571);
        Due.is("what stayed, in all", x.count(3), 3);
    }

    private static void finesByTheLawsOfTheYear() {
        Due.says("Terms IV: As the CLOCK goes on: by the LAWS of the YEAR that ends");
        CapLeague x = Due.withPlayers(1);
        x.sign(0, 0, 2, 100, 0, 0, false);
        Due.laws(x, 1, "cap 50;tax 100;");
        Due.endYear(x);
        Due.is("none in year 0", x.purse(0), 0);
        Due.laws(x, 2, "cap 1;tax 300;");
        Due.endYear(x);
        Due.is("50 in year 1", x.purse(0), 50);
        Due.endYear(x);
        Due.is("none without a contract", x.purse(0), 50);
    }

    private static void contractsEndThen() {
        Due.says("Terms IV: CONTRACTS end then");
        CapLeague x = Due.withPlayers(3);
        x.sign(0, 0, 1, 100, 0, 100, false);
        x.sign(1, 0, 2, 10, 0, 100, true);
        x.sign(2, 0, 2, 1, 0, 100, false);
        Due.laws(x, 0, "cap 10;tax 100;");
        Due.endYear(x);
        Due.is("they counted in the year that ended", x.purse(0), 101);
        Due.is("over", x.about(0, 0), -1);
        Due.is("over ahead of its choice", x.about(1, 0), -1);
        Due.is("goes on", x.about(2, 0), 0);
        Due.is("counts", x.club(0, 1, 0), 1);
        Due.is("no dead money", x.club(0, 1, 1), 0);
    }

    private static void noneIsHurtThen() {
        Due.says("Terms IV: none is HURT then");
        CapLeague x = Due.withPlayers(60);
        Due.laws(x, 0, "hurt 50;cap 50;tax 100;");
        x.sign(0, 0, 1, 40, 0, 0, false);
        x.hurt(0, true);
        x.hurt(59, true);
        x.sign(1, 0, 1, 30, 0, 0, false);
        Due.endYear(x);
        Due.is("who was hurt counted less in the year that ended", x.purse(0), 0);
        Due.is("0", x.about(0, 4), 0);
        Due.is("59", x.about(59, 4), 0);
    }

    private static void noSpareIsUsedThen() {
        Due.says("Terms IV: no spare is used then");
        CapLeague x = Due.withPlayers(8);
        Due.laws(x, 0, "cap 1;spare 5;");
        for (int c = 0; c < 8; c++) {
            x.sign(c, c, 1, 5, 0, 0, false);
            Due.is("used by " + c, x.club(c, 0, 3), 1);
        }
        Due.endYear(x);
        for (int c = 0; c < 8; c++) {
            Due.is("free for " + c, x.sign(c, c, 1, 5, 0, 0, false), 1);
        }
    }

    private static void tableIsOfItsYearAlone() {
        Due.says("Promise 32: 5: 1 if a table was told this YEAR, 6: 1 if its DRAFT was DRAWN");
        CapLeague x = new CapLeague();
        for (int year = 0; year < 10; year++) {
            Due.is("no table in " + year, x.count(5), 0);
            Due.is("not drawn in " + year, x.count(6), 0);
            Due.table(x, "ABCDEFGH");
            Due.is("table in " + year, x.count(5), 1);
            Due.is("not drawn yet in " + year, x.count(6), 0);
            x.draw(0, 0);
            Due.is("table still in " + year, x.count(5), 1);
            Due.is("drawn in " + year, x.count(6), 1);
            x.next();
        }
        Due.is("the last one stays", x.count(5) + x.count(6), 2);
    }

    private static void purseNoSuch() {
        Due.says("Promise 31: RANGE (-2000000000)");
        CapLeague x = ended("cap 10;tax 100;", 17);
        Due.each("purse", x::purse, NO_SUM, NO_CLUBS);
        Due.is("the first", x.purse(0), 7);
        Due.is("the last", x.purse(7), -1);
    }

    private static void countOfNothingElse() {
        Due.says("Promise 32: NONE for others");
        CapLeague x = new CapLeague();
        Due.each("count", x::count, -1, LEAST, -1, 7, 8, GREATEST);
        Due.each("at first", x::count, 0, 0, 1, 2, 3, 4, 5, 6);
    }

    private static void countsAtTheirMost() {
        Due.says("Promise 32: the CLOCK's YEAR, PLAYERS, moves of the TRADE, bytes of THE TAPE: at their most");
        CapLeague x = Due.withPlayers(60);
        for (int year = 0; year < 9; year++) {
            Due.endYear(x);
        }
        for (int p = 0; p < 13; p++) {
            x.sign(p, 0, 1, 1, 0, 0, false);
        }
        for (int p = 0; p < 13; p++) {
            x.give(p, 1);
        }
        for (int i = 0; i < 26; i++) {
            x.feed(0, 0, 0, 0, 0);
        }
        Due.is("year", x.count(0), 9);
        Due.is("players", x.count(1), 60);
        Due.is("moves", x.count(2), 12);
        Due.is("bytes", x.count(4), 500);
    }
}
