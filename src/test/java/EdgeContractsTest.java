/** The edges that Terms II and promises 7 to 14 name: one test for each sentence with one. */
public final class EdgeContractsTest {
    private static final int LEAST = Integer.MIN_VALUE;
    private static final int GREATEST = Integer.MAX_VALUE;
    private static final int[] NO_CLUBS = {LEAST, -1, 8, 9, 256, GREATEST};

    public static void main(String[] args) {
        sixtyPlayersAtMost();
        playersComeWithoutAClub();
        noSuchPlayer();
        noSuchClub();
        noSuchYears();
        noSuchPay();
        noSuchRise();
        noSuchSure();
        choiceOfOneYear();
        rangeAheadOfWhatIsWrong();
        fromTheClocksYearOn();
        payIsZeroAtLeast();
        endsBeyondItsLastYear();
        choiceEndsAheadOfItsYear();
        playerHasAContract();
        asManyPlayersAsRoster();
        moreYearsThanYears();
        aboveCap();
        aboveSpare();
        spareIsUsedOnceAYear();
        contractAtCapUsesNoSpare();
        deadMoneyIsInTheWay();
        lawsOfTheClocksYear();
        signsNothingThatIsWrong();
        chooseNoSuchPlayer();
        chooseNotAsThingsAre();
        chooseInTheYearAhead();
        waiveNoSuchPlayer();
        waiveWithoutContract();
        eachYearsPartIsCut();
        yearsGoneAreNotDead();
        choiceNotTakenIsNotDead();
        yearsBehindNineAreAside();
        sureOfNoneAndOfAll();
        hurtNoSuchPlayer();
        hurtIfItWasOtherwise();
        hurtPartIsCut();
        hurtInTheClocksYearAlone();
        aboutOneWithoutContract();
        aboutNothingElse();
        aboutYearsOfTheContract();
        choiceThatIsNotTakenCountsNot();
        clubOfNothingElse();
        spareWasUsed();
        manyWaiversAddUp();
        Due.done();
    }

    /** A contract that nothing is wrong with, but for what a test says. */
    private static int sign(CapLeague x, int p, int c, int years, int pay) {
        return x.sign(p, c, years, pay, 0, 0, false);
    }

    private static int wrong(CapLeague x, int p, int c, int years, int pay) {
        return x.wrong(p, c, years, pay, 0, 0, false);
    }

    /** RANGE for these numbers in the place that the call leaves open, in wrong() and in sign(). */
    private static void range(CapLeague x, int place, int... numbers) {
        for (int number : numbers) {
            int[] of = {0, 0, 2, 10, 0, 0};
            of[place] = number;
            Due.is("wrong, " + place + " is " + number, x.wrong(of[0], of[1], of[2], of[3], of[4], of[5], false), -2);
            Due.is("sign, " + place + " is " + number, x.sign(of[0], of[1], of[2], of[3], of[4], of[5], false), -2);
        }
        Due.is("not signed", x.about(0, 0), -1);
    }

    /** None is wrong with these numbers in the place that the call leaves open; each is signed and waived. */
    private static void inRange(CapLeague x, int place, int... numbers) {
        for (int number : numbers) {
            int[] of = {0, 0, 2, 10, 0, 0};
            of[place] = number;
            Due.is("wrong, " + place + " is " + number, x.wrong(of[0], of[1], of[2], of[3], of[4], of[5], false), 0);
            Due.is("sign, " + place + " is " + number, x.sign(of[0], of[1], of[2], of[3], of[4], of[5], false), 1);
            x.waive(of[0]);
        }
    }

    private static CapLeague rich(int players) {
        CapLeague x = Due.withPlayers(players);
        Due.laws(x, 0, "cap 50000;years 5;");
        return x;
    }

    private static void sixtyPlayersAtMost() {
        Due.says("Promise 7: A PLAYER comes: the number; FULL; Terms II: at most 60, numbered from 0 as they come");
        CapLeague x = new CapLeague();
        for (int p = 0; p < 60; p++) {
            Due.is("player", x.player(), p);
        }
        Due.is("player 60", x.player(), -3);
        Due.is("players", x.count(1), 60);
        Due.is("no 60", x.about(60, 0), -9);
        Due.is("59 signs", sign(x, 59, 7, 1, 5), 1);
        Due.is("still full", x.player(), -3);
        Due.is("59 as it was", x.about(59, 0), 7);
    }

    private static void playersComeWithoutAClub() {
        Due.says("Terms II: as they come, without a club");
        CapLeague x = Due.withPlayers(2);
        Due.is("club", x.about(1, 0), -1);
        Due.is("last year", x.about(1, 1), -1);
        for (int c = 0; c < 8; c++) {
            Due.is("players of " + c, x.club(c, 0, 2), 0);
        }
    }

    private static void noSuchPlayer() {
        Due.says("Promise 8, 9: RANGE: no such PLAYER");
        Due.is("ahead of any", wrong(new CapLeague(), 0, 0, 1, 1), -2);
        Due.is("sign ahead of any", sign(new CapLeague(), 0, 0, 1, 1), -2);
        CapLeague x = rich(2);
        range(x, 0, LEAST, -1, 2, 3, 59, 60, 61, GREATEST);
        inRange(x, 0, 0, 1);
    }

    private static void noSuchClub() {
        Due.says("Promise 8, 9: RANGE: no such CLUB; Terms I: CLUBS 0 .. 7");
        CapLeague x = rich(1);
        range(x, 1, NO_CLUBS);
        inRange(x, 1, 0, 1, 6, 7);
    }

    private static void noSuchYears() {
        Due.says("Promise 8, 9: RANGE: no such years; Terms II: for 1 .. 5 YEARS");
        CapLeague x = rich(1);
        range(x, 2, LEAST, -1, 0, 6, 7, GREATEST);
        inRange(x, 2, 1, 2, 5);
    }

    private static void noSuchPay() {
        Due.says("Promise 8, 9: RANGE: no such pay (0 .. 20000)");
        CapLeague x = rich(1);
        range(x, 3, LEAST, -1, 20001, GREATEST);
        inRange(x, 3, 0, 1, 19999, 20000);
    }

    private static void noSuchRise() {
        Due.says("Promise 8, 9: RANGE: no such rise; Terms II: -500 .. 500");
        CapLeague x = rich(1);
        range(x, 4, LEAST, -501, 501, GREATEST);
        inRange(x, 4, -500, -499, 0, 499, 500);
    }

    private static void noSuchSure() {
        Due.says("Promise 8, 9: RANGE: no such sure; Terms II: 0 .. 100 hundredths");
        CapLeague x = rich(1);
        range(x, 5, LEAST, -1, 101, GREATEST);
        inRange(x, 5, 0, 1, 99, 100);
    }

    private static void choiceOfOneYear() {
        Due.says("Promise 8, 9: RANGE: a choice of one YEAR; Terms II: CHOICE (of two YEARS or more)");
        CapLeague x = rich(1);
        Due.is("wrong of one", x.wrong(0, 0, 1, 5, 0, 0, true), -2);
        Due.is("sign of one", x.sign(0, 0, 1, 5, 0, 0, true), -2);
        Due.is("not signed", x.about(0, 0), -1);
        for (int years = 2; years <= 5; years++) {
            Due.is("wrong of " + years, x.wrong(0, 0, years, 5, 0, 0, true), 0);
            Due.is("sign of " + years, x.sign(0, 0, years, 5, 0, 0, true), 1);
            x.waive(0);
        }
        Due.is("one without a choice", x.sign(0, 0, 1, 5, 0, 0, false), 1);
    }

    private static void rangeAheadOfWhatIsWrong() {
        Due.says("Promise 9: 0: something is WRONG; RANGE likewise");
        CapLeague x = Due.withPlayers(1);
        Due.laws(x, 0, "cap 10;roster 1;years 1;");
        sign(x, 0, 0, 1, 10);
        Due.is("all is wrong", wrong(x, 0, 0, 2, 10), 15);
        Due.is("0", sign(x, 0, 0, 2, 10), 0);
        Due.is("and no such pay", wrong(x, 0, 0, 2, -1), -2);
        Due.is("and no such years", sign(x, 0, 0, 6, 10), -2);
        Due.is("and no such sure", x.sign(0, 0, 2, 10, 0, 101, false), -2);
        Due.is("and no such rise", x.wrong(0, 0, 2, 10, 501, 0, false), -2);
    }

    private static void fromTheClocksYearOn() {
        Due.says("Terms II: for 1 .. 5 YEARS from the CLOCK's on, a pay for each");
        for (int clock : new int[] {0, 5, 9}) {
            for (int years = 1; years <= 5; years++) {
                CapLeague x = rich(1);
                for (int year = 0; year < clock; year++) {
                    Due.endYear(x);
                }
                x.sign(0, 3, years, 100, 7, 0, false);
                Due.is("last of " + years + " from " + clock, x.about(0, 1), clock + years - 1);
                for (int year = 0; year < 10; year++) {
                    boolean isIn = year >= clock && year < clock + years;
                    int due = isIn ? 100 + 7 * (year - clock) : 0;
                    Due.is("pay of " + year, x.about(0, 10 + year), due);
                    Due.is("counts in " + year, x.club(3, year, 0), year < clock ? -2 : due);
                    Due.is("players in " + year, x.club(3, year, 2), year < clock ? -2 : isIn ? 1 : 0);
                }
            }
        }
    }

    private static void payIsZeroAtLeast() {
        Due.says("Terms II: by how much it rises or falls each YEAR; each pay is 0 at least");
        int[][] rows = {
            {1000, -500, 1000, 500, 0, 0, 0}, {999, -500, 999, 499, 0, 0, 0}, {2000, -500, 2000, 1500, 1000, 500, 0},
            {0, -500, 0, 0, 0, 0, 0}, {0, 500, 0, 500, 1000, 1500, 2000},
            {20000, 500, 20000, 20500, 21000, 21500, 22000}
        };
        for (int[] row : rows) {
            CapLeague x = rich(1);
            Due.is("sign", x.sign(0, 2, 5, row[0], row[1], 100, false), 1);
            int sum = 0;
            for (int year = 0; year < 5; year++) {
                Due.is("pay " + row[0] + " " + row[1] + " in " + year, x.about(0, 10 + year), row[2 + year]);
                Due.is("counts in " + year, x.club(2, year, 0), row[2 + year]);
                Due.is("a player in " + year, x.club(2, year, 2), 1);
                sum += row[2 + year];
            }
            Due.is("waived", x.waive(0), sum);
            Due.is("dead", x.club(2, 4, 1), row[6]);
        }
    }

    private static void endsBeyondItsLastYear() {
        Due.says("Terms II: It ends when the CLOCK goes beyond its last YEAR");
        for (int years = 1; years <= 5; years++) {
            CapLeague x = rich(1);
            x.sign(0, 6, years, 10, 0, 100, false);
            for (int year = 0; year < years; year++) {
                Due.is("in " + year + " of " + years, x.about(0, 0), 6);
                Due.is("not free", wrong(x, 0, 1, 1, 1), 1);
                Due.endYear(x);
            }
            Due.is("beyond", x.about(0, 0), -1);
            Due.is("last year", x.about(0, 1), -1);
            Due.is("sure", x.about(0, 3), 0);
            Due.is("pay", x.about(0, 10 + years - 1), 0);
            Due.is("counts", x.club(6, years, 0), 0);
            Due.is("free", sign(x, 0, 1, 1, 1), 1);
        }
    }

    private static void choiceEndsAheadOfItsYear() {
        Due.says("Terms II: one whose last YEAR is a CHOICE ends ahead of that YEAR, unless it was TAKEN");
        for (int years = 2; years <= 5; years++) {
            CapLeague left = rich(1);
            CapLeague taken = rich(1);
            left.sign(0, 6, years, 10, 0, 100, true);
            taken.sign(0, 6, years, 10, 0, 100, true);
            for (int year = 0; year < years - 1; year++) {
                Due.is("in " + year, left.about(0, 0), 6);
                if (year == years - 2) {
                    Due.is("taken", taken.choose(0), 1);
                }
                Due.endYear(left);
                Due.endYear(taken);
            }
            Due.is("ended", left.about(0, 0), -1);
            Due.is("no last year", left.about(0, 1), -1);
            Due.is("no choice", left.about(0, 2), 0);
            Due.is("no dead money", left.club(6, years - 1, 0), 0);
            Due.is("goes on", taken.about(0, 0), 6);
            Due.is("counts", taken.club(6, years - 1, 0), 10);
            Due.endYear(taken);
            Due.is("ends too", taken.about(0, 0), -1);
        }
    }

    private static void playerHasAContract() {
        Due.says("Terms II: WRONG: 1 the PLAYER has one");
        CapLeague x = rich(1);
        Due.is("none yet", wrong(x, 0, 0, 1, 1), 0);
        sign(x, 0, 0, 2, 1);
        Due.is("with the same club", wrong(x, 0, 0, 1, 1), 1);
        Due.is("with another one", wrong(x, 0, 7, 1, 1), 1);
        x.waive(0);
        Due.is("waived", wrong(x, 0, 0, 1, 1), 0);
    }

    private static void asManyPlayersAsRoster() {
        Due.says("Terms II: WRONG: 2 as many PLAYERS as roster are with the CLUB");
        CapLeague x = rich(17);
        for (int p = 0; p < 15; p++) {
            Due.is("with " + p, wrong(x, p, 4, 1, 1), 0);
            sign(x, p, 4, 1, 1);
        }
        Due.is("with 15", wrong(x, 15, 4, 1, 1), 2);
        Due.is("not signed", sign(x, 15, 4, 1, 1), 0);
        Due.is("with another one", wrong(x, 15, 5, 1, 1), 0);
        x.waive(3);
        Due.is("with 14 again", sign(x, 15, 4, 1, 1), 1);
        Due.laws(x, 0, "cap 50000;roster 14;");
        Due.is("with one more than roster", wrong(x, 16, 4, 1, 1), 2);
        Due.laws(x, 0, "roster 1;");
        Due.is("the first of one", sign(x, 16, 0, 1, 1), 1);
        Due.is("the second of one", wrong(x, 3, 0, 1, 1), 2);
    }

    private static void moreYearsThanYears() {
        Due.says("Terms II: WRONG: 4 more YEARS than years");
        for (int most = 1; most <= 5; most++) {
            CapLeague x = Due.withPlayers(1);
            Due.laws(x, 0, "years " + most + ";");
            for (int years = 1; years <= 5; years++) {
                Due.is(years + " of " + most, wrong(x, 0, 0, years, 1), years > most ? 4 : 0);
                Due.is("with a choice", x.wrong(0, 0, years, 1, 0, 0, true), years == 1 ? -2 : years > most ? 4 : 0);
            }
        }
    }

    private static void aboveCap() {
        Due.says("Terms II: WRONG: 8 what COUNTS in the CLOCK's YEAR and the first pay are above cap");
        CapLeague x = Due.withPlayers(4);
        Due.laws(x, 0, "cap 100;");
        Due.is("at it", wrong(x, 0, 0, 1, 100), 0);
        Due.is("above it", wrong(x, 0, 0, 1, 101), 8);
        x.sign(0, 0, 3, 60, 40, 0, false);
        Due.is("at it, together", wrong(x, 1, 0, 1, 40), 0);
        Due.is("above it, together", wrong(x, 1, 0, 1, 41), 8);
        Due.is("later years are not asked", x.sign(1, 0, 3, 40, 500, 0, false), 1);
        Due.is("what counts later", x.club(0, 2, 0), 140 + 1040);
        Due.is("another club", wrong(x, 2, 1, 1, 100), 0);
        Due.laws(x, 0, "cap 1;");
        Due.is("at a cap of 1", wrong(x, 2, 1, 1, 1), 0);
        Due.is("above a cap of 1", wrong(x, 2, 1, 1, 2), 8);
        Due.laws(x, 0, "cap 50000;");
        sign(x, 2, 2, 1, 20000);
        sign(x, 3, 2, 1, 20000);
        x.player();
        Due.is("at the greatest", wrong(x, 4, 2, 1, 10000), 0);
        Due.is("above the greatest", wrong(x, 4, 2, 1, 10001), 8);
    }

    private static void aboveSpare() {
        Due.says("Terms II: WRONG: 8 above cap, and the first pay is above spare");
        CapLeague x = Due.withPlayers(2);
        Due.laws(x, 0, "cap 100;spare 30;");
        sign(x, 0, 0, 1, 100);
        Due.is("at spare", wrong(x, 1, 0, 1, 30), 0);
        Due.is("above spare", wrong(x, 1, 0, 1, 31), 8);
        Due.is("above spare, below cap", wrong(x, 1, 1, 1, 31), 0);
        Due.laws(x, 0, "cap 100;");
        Due.is("without spare", wrong(x, 1, 0, 1, 1), 8);
        Due.is("without pay: at the cap", wrong(x, 1, 0, 1, 0), 0);
        Due.laws(x, 0, "cap 99;");
        Due.is("without pay: 0 is not above a spare of 0", wrong(x, 1, 0, 1, 0), 0);
        Due.laws(x, 0, "cap 1;spare 5000;");
        Due.is("at the greatest spare", wrong(x, 1, 1, 1, 5000), 0);
        Due.is("above the greatest spare", wrong(x, 1, 1, 1, 5001), 8);
    }

    private static void spareIsUsedOnceAYear() {
        Due.says("Terms II: or the CLUB used spare this YEAR. (A CONTRACT above cap uses it.)");
        CapLeague x = Due.withPlayers(4);
        Due.laws(x, 0, "cap 10;spare 30;");
        Due.is("by spare", sign(x, 0, 0, 1, 11), 1);
        Due.is("again", wrong(x, 1, 0, 1, 1), 8);
        Due.is("another club", wrong(x, 1, 1, 1, 30), 0);
        x.waive(0);
        Due.is("used still", x.club(0, 0, 3), 1);
        Due.is("below cap all the same", wrong(x, 1, 0, 1, 10), 0);
        Due.is("above it not", wrong(x, 1, 0, 1, 11), 8);
        Due.laws(x, 0, "cap 10;spare 5000;");
        Due.is("nor by a spare told anew", wrong(x, 1, 0, 1, 11), 8);
        Due.endYear(x);
        Due.is("the next year", sign(x, 1, 0, 1, 11), 1);
    }

    private static void contractAtCapUsesNoSpare() {
        Due.says("Terms II: (A CONTRACT above cap uses it.)");
        CapLeague x = Due.withPlayers(2);
        Due.laws(x, 0, "cap 10;spare 30;");
        sign(x, 0, 0, 1, 10);
        Due.is("at cap", x.club(0, 0, 3), 0);
        wrong(x, 1, 0, 1, 30);
        Due.is("wrong() uses none", x.club(0, 0, 3), 0);
        sign(x, 1, 0, 1, 31);
        Due.is("nor one that is refused", x.club(0, 0, 3), 0);
        sign(x, 1, 0, 1, 30);
        Due.is("one above cap", x.club(0, 0, 3), 1);
    }

    private static void deadMoneyIsInTheWay() {
        Due.says("Terms II: what COUNTS: and DEAD money");
        CapLeague x = Due.withPlayers(2);
        Due.laws(x, 0, "cap 100;");
        x.sign(0, 0, 1, 100, 0, 35, false);
        x.waive(0);
        Due.is("35 and 65", wrong(x, 1, 0, 1, 65), 0);
        Due.is("35 and 66", wrong(x, 1, 0, 1, 66), 8);
        Due.is("one who is waived is not with the club", x.club(0, 0, 2), 0);
    }

    private static void lawsOfTheClocksYear() {
        Due.says("Terms II: What is WRONG with a CONTRACT, by the LAWS of the CLOCK's YEAR");
        CapLeague x = Due.withPlayers(3);
        Due.laws(x, 1, "cap 10;roster 1;years 1;");
        sign(x, 0, 0, 4, 10);
        Due.is("in year 0", wrong(x, 1, 0, 4, 11), 0);
        Due.endYear(x);
        Due.is("in year 1", wrong(x, 1, 0, 4, 11), 14);
        Due.laws(x, 2, "cap 50000;");
        Due.is("not by the next one's", wrong(x, 1, 0, 4, 11), 14);
    }

    private static void signsNothingThatIsWrong() {
        Due.says("Promise 9: A CONTRACT is made: 1; 0: something is WRONG");
        CapLeague x = Due.withPlayers(2);
        Due.laws(x, 0, "cap 10;years 1;");
        Due.is("1", sign(x, 0, 0, 1, 10), 1);
        Due.is("by 1", x.sign(0, 1, 1, 5, 3, 9, false), 0);
        Due.is("club as it was", x.about(0, 0), 0);
        Due.is("sure as it was", x.about(0, 3), 0);
        Due.is("by 4", sign(x, 1, 1, 2, 5), 0);
        Due.is("by 8", sign(x, 1, 1, 1, 11), 0);
        Due.laws(x, 0, "roster 1;");
        Due.is("by 2", sign(x, 1, 0, 1, 5), 0);
        Due.is("not signed", x.about(1, 0), -1);
    }

    private static void chooseNoSuchPlayer() {
        Due.says("Promise 10: RANGE: no such PLAYER");
        CapLeague x = Due.withPlayers(3);
        Due.each("choose", x::choose, -2, LEAST, -1, 3, 59, 60, GREATEST);
        Due.is("ahead of any", new CapLeague().choose(0), -2);
    }

    private static void chooseNotAsThingsAre() {
        Due.says("Promise 10: STATE: no CONTRACT, no CHOICE, TAKEN already");
        CapLeague x = Due.withPlayers(3);
        x.sign(1, 0, 2, 10, 0, 0, false);
        x.sign(2, 0, 2, 10, 0, 0, true);
        Due.is("no contract", x.choose(0), -4);
        Due.is("no choice", x.choose(1), -4);
        Due.is("a choice", x.choose(2), 1);
        Due.is("taken already", x.choose(2), -4);
        Due.is("counts once", x.club(0, 1, 0), 20);
        x.waive(2);
        Due.is("waived", x.choose(2), -4);
    }

    private static void chooseInTheYearAhead() {
        Due.says("Promise 10: STATE: its YEAR isn't the one behind the CLOCK's");
        for (int years = 2; years <= 5; years++) {
            CapLeague x = rich(1);
            x.sign(0, 0, years, 10, 0, 0, true);
            for (int year = 0; year < years - 2; year++) {
                Due.is("in " + year + " of " + years, x.choose(0), -4);
                Due.is("open still", x.about(0, 2), 1);
                Due.endYear(x);
            }
            Due.is("in the year ahead", x.choose(0), 1);
            Due.is("taken", x.about(0, 2), 0);
        }
    }

    private static void waiveNoSuchPlayer() {
        Due.says("Promise 11: RANGE");
        CapLeague x = Due.withPlayers(3);
        Due.each("waive", x::waive, -2, LEAST, -1, 3, 59, 60, GREATEST);
        Due.is("ahead of any", new CapLeague().waive(0), -2);
    }

    private static void waiveWithoutContract() {
        Due.says("Promise 11: STATE: no CONTRACT");
        CapLeague x = Due.withPlayers(1);
        Due.is("none yet", x.waive(0), -4);
        x.sign(0, 0, 1, 10, 0, 100, false);
        Due.is("one", x.waive(0), 10);
        Due.is("none any more", x.waive(0), -4);
        Due.is("dead money once", x.club(0, 0, 1), 10);
        x.sign(0, 0, 1, 10, 0, 100, false);
        Due.endYear(x);
        Due.is("it ended", x.waive(0), -4);
    }

    private static void eachYearsPartIsCut() {
        Due.says("Terms II: its SURE hundredths (each YEAR's cut) are DEAD money of its CLUB in those YEARS");
        CapLeague x = rich(2);
        x.sign(0, 1, 3, 199, 1, 50, false);
        Due.is("99, 100 and 100", x.waive(0), 299);
        Due.is("year 0", x.club(1, 0, 1), 99);
        Due.is("year 1", x.club(1, 1, 1), 100);
        Due.is("year 2", x.club(1, 2, 1), 100);
        Due.is("year 3", x.club(1, 3, 1), 0);
        x.sign(1, 2, 5, 1, 0, 99, false);
        Due.is("99 hundredths of 1, five times", x.waive(1), 0);
    }

    private static void yearsGoneAreNotDead() {
        Due.says("Terms II: of the CLOCK's YEAR and all behind it");
        CapLeague x = rich(2);
        x.sign(0, 1, 3, 100, 10, 100, false);
        x.sign(1, 1, 2, 5, 0, 100, false);
        Due.endYear(x);
        Due.is("110 and 120", x.waive(0), 230);
        Due.is("year 1", x.club(1, 1, 1), 110);
        Due.is("counts with the other", x.club(1, 1, 0), 115);
        Due.endYear(x);
        Due.is("year 2", x.club(1, 2, 0), 120);
        Due.endYear(x);
        Due.is("year 3", x.club(1, 3, 0), 0);
    }

    private static void choiceNotTakenIsNotDead() {
        Due.says("Terms II: DEAD money (a CHOICE not TAKEN aside)");
        CapLeague x = rich(2);
        x.sign(0, 1, 2, 100, 10, 100, true);
        x.sign(1, 1, 2, 100, 10, 100, true);
        x.choose(1);
        Due.is("not taken", x.waive(0), 100);
        Due.is("taken", x.waive(1), 210);
        Due.is("year 1", x.club(1, 1, 1), 110);
        Due.is("no choice is left", x.about(0, 2), 0);
    }

    private static void yearsBehindNineAreAside() {
        Due.says("Terms II: DEAD money (YEARS behind 9 aside)");
        CapLeague x = rich(3);
        for (int year = 0; year < 9; year++) {
            if (year == 7) {
                x.sign(0, 0, 5, 100, 10, 100, false);
                Due.is("7, 8 and 9", x.waive(0), 330);
            }
            Due.endYear(x);
        }
        x.sign(1, 0, 5, 100, 10, 100, false);
        Due.is("its last year", x.about(1, 1), 13);
        Due.is("9 alone", x.waive(1), 100);
        Due.is("dead in 9", x.club(0, 9, 1), 220);
        x.sign(2, 0, 2, 100, 0, 100, true);
        Due.is("a choice behind 9 is the one behind the clock's", x.choose(2), 1);
        Due.is("9 alone again", x.waive(2), 100);
    }

    private static void sureOfNoneAndOfAll() {
        Due.says("Terms II: a SURE part (0 .. 100 hundredths)");
        CapLeague x = rich(4);
        int[] parts = {0, 1, 99, 100};
        for (int p = 0; p < 4; p++) {
            x.sign(p, p, 1, 20000, 0, parts[p], false);
            Due.is("sure", x.about(p, 3), parts[p]);
            Due.is("of " + parts[p], x.waive(p), 200 * parts[p]);
        }
    }

    private static void hurtNoSuchPlayer() {
        Due.says("Promise 12: RANGE");
        CapLeague x = Due.withPlayers(2);
        Due.each("hurt", p -> x.hurt(p, true), -2, LEAST, -1, 2, 59, 60, GREATEST);
        Due.each("not hurt", p -> x.hurt(p, false), -2, LEAST, -1, 2, 59, 60, GREATEST);
    }

    private static void hurtIfItWasOtherwise() {
        Due.says("Promise 12: HURT in the CLOCK's YEAR, or not any more: 1 if it was otherwise, else 0");
        CapLeague x = Due.withPlayers(2);
        Due.is("not hurt at first", x.hurt(0, false), 0);
        Due.is("hurt", x.hurt(0, true), 1);
        Due.is("hurt again", x.hurt(0, true), 0);
        Due.is("another one", x.about(1, 4), 0);
        Due.is("not any more", x.hurt(0, false), 1);
        Due.is("not any more, again", x.hurt(0, false), 0);
        x.hurt(0, true);
        Due.endYear(x);
        Due.is("none is hurt in the next year", x.hurt(0, false), 0);
    }

    private static void hurtPartIsCut() {
        Due.says("Terms II: less hurt hundredths of it (cut) if one is HURT");
        int[][] rows = {{0, 199, 199}, {1, 99, 99}, {1, 100, 99}, {50, 199, 100}, {50, 1, 1}, {99, 1, 1}, {99, 199, 2},
            {100, 199, 0}, {100, 0, 0}};
        for (int[] row : rows) {
            CapLeague x = Due.withPlayers(1);
            Due.laws(x, 0, "hurt " + row[0] + ";");
            sign(x, 0, 0, 1, row[1]);
            x.hurt(0, true);
            Due.is(row[0] + " of " + row[1], x.club(0, 0, 0), row[2]);
            Due.is("is with the club", x.club(0, 0, 2), 1);
        }
    }

    private static void hurtInTheClocksYearAlone() {
        Due.says("Terms II: if one is HURT (in the CLOCK's YEAR alone)");
        CapLeague x = Due.withPlayers(2);
        Due.laws(x, 0, "hurt 50;");
        sign(x, 0, 0, 3, 100);
        sign(x, 1, 0, 3, 10);
        x.hurt(0, true);
        Due.is("this year", x.club(0, 0, 0), 60);
        Due.is("the next one", x.club(0, 1, 0), 110);
        Due.endYear(x);
        Due.is("when it has come", x.club(0, 1, 0), 110);
        x.hurt(0, true);
        Due.is("hurt anew", x.club(0, 1, 0), 60);
        Due.is("dead money is not less", x.waive(0), 0);
        Due.is("the other one is left", x.club(0, 1, 0), 10);
    }

    private static void aboutOneWithoutContract() {
        Due.says("Promise 13: CLUB (NONE), the last YEAR of the CONTRACT (NONE), the pay of YEAR y (0)");
        CapLeague x = Due.withPlayers(1);
        Due.is("club", x.about(0, 0), -1);
        Due.is("last", x.about(0, 1), -1);
        Due.is("choice", x.about(0, 2), 0);
        Due.is("hurt", x.about(0, 4), 0);
        Due.each("pay", what -> x.about(0, what), 0, 10, 11, 18, 19);
        x.sign(0, 7, 2, 50, 5, 60, true);
        x.waive(0);
        Due.is("club of one waived", x.about(0, 0), -1);
        Due.is("last of one waived", x.about(0, 1), -1);
        Due.is("choice of one waived", x.about(0, 2), 0);
        Due.each("pay of one waived", what -> x.about(0, what), 0, 10, 11, 12);
    }

    private static void aboutNothingElse() {
        Due.says("Promise 13: -9 when there is none such");
        CapLeague x = Due.withPlayers(2);
        sign(x, 0, 0, 4, 10);
        Due.each("about", what -> x.about(0, what), -9, LEAST, LEAST + 9, LEAST + 10, -1, 5, 9, 20, 21, GREATEST);
        Due.each("about no one", p -> x.about(p, 0), -9, LEAST, -1, 2, 59, 60, GREATEST);
    }

    private static void aboutYearsOfTheContract() {
        Due.says("Promise 13: the last YEAR (a CHOICE with it); 1 if it has a CHOICE that is not TAKEN");
        CapLeague x = rich(1);
        x.sign(0, 0, 5, 10, 1, 0, true);
        Due.is("last", x.about(0, 1), 4);
        Due.is("choice", x.about(0, 2), 1);
        Due.is("its pay", x.about(0, 14), 14);
        Due.is("behind it", x.about(0, 15), 0);
        for (int year = 0; year < 3; year++) {
            Due.endYear(x);
        }
        x.choose(0);
        Due.is("last when taken", x.about(0, 1), 4);
        Due.is("choice when taken", x.about(0, 2), 0);
        Due.is("its pay when taken", x.about(0, 14), 14);
    }

    private static void choiceThatIsNotTakenCountsNot() {
        Due.says("Terms II: (a CHOICE that is not TAKEN: none); Promise 14: PLAYERS (a CHOICE that is not TAKEN: not)");
        CapLeague x = Due.withPlayers(1);
        x.sign(0, 3, 2, 10, 5, 0, true);
        Due.is("year 0", x.club(3, 0, 0), 10);
        Due.is("its player", x.club(3, 0, 2), 1);
        Due.is("year 1", x.club(3, 1, 0), 0);
        Due.is("no player", x.club(3, 1, 2), 0);
        x.choose(0);
        Due.is("taken", x.club(3, 1, 0), 15);
        Due.is("a player", x.club(3, 1, 2), 1);
        Due.is("behind it", x.club(3, 2, 0), 0);
    }

    private static void clubOfNothingElse() {
        Due.says("Promise 14: RANGE: no such, or a YEAR gone");
        CapLeague x = Due.withPlayers(1);
        sign(x, 0, 0, 4, 10);
        for (int what = 0; what < 4; what++) {
            int of = what;
            Due.each("club " + what, c -> x.club(c, 0, of), -2, NO_CLUBS);
            Due.each("year " + what, year -> x.club(0, year, of), -2, LEAST, -1, 10, 11, GREATEST);
        }
        Due.each("what", what -> x.club(0, 0, what), -2, LEAST, -1, 4, 5, GREATEST);
        Due.is("the last club and year", x.club(7, 9, 0), 0);
        Due.is("this year", x.club(0, 0, 0), 10);
        Due.endYear(x);
        for (int what = 0; what < 4; what++) {
            Due.is("a year gone " + what, x.club(0, 0, what), -2);
        }
        Due.is("this one", x.club(0, 1, 0), 10);
    }

    private static void spareWasUsed() {
        Due.says("Promise 14: 3: 1 if spare was used");
        CapLeague x = Due.withPlayers(1);
        Due.laws(x, 0, "cap 1;spare 9;");
        Due.is("not yet", x.club(5, 0, 3), 0);
        sign(x, 0, 5, 3, 9);
        Due.is("used", x.club(5, 0, 3), 1);
        for (int year = 1; year < 10; year++) {
            Due.is("in " + year, x.club(5, year, 3), 0);
        }
        Due.endYear(x);
        Due.is("no spare is used then", x.club(5, 1, 3), 0);
    }

    private static void manyWaiversAddUp() {
        Due.says("Terms II: DEAD money: of all that are waived, together");
        CapLeague x = rich(1);
        for (int i = 1; i <= 2; i++) {
            x.sign(0, 0, 1, 20000, 0, 100, false);
            Due.is("waived", x.waive(0), 20000);
            Due.is("dead", x.club(0, 0, 1), 20000 * i);
        }
        Due.is("no room for as much", x.sign(0, 0, 1, 20000, 0, 100, false), 0);
        Due.is("for the rest", x.sign(0, 0, 1, 10000, 0, 100, false), 1);
        Due.is("counts", x.club(0, 0, 0), 50000);
    }
}
